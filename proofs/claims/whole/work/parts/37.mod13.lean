set_option maxRecDepth 100000 in
set_option maxHeartbeats 4000000 in
theorem c_D_whereM (l : Launch) (G : tc_G) (u : tc_S) (hm : u 56 6 = 0) (x y : Int32) : tc_C tcx G l yD_where wD_where r0D_where 0 0 [.ref (tc_ad G 56), .int x, .int y] u (tc_Ki 0 (tc_up u 56 0 1)) := by
  refine tw_ofV (own := "TracedCodeModel") [some (.ref (tc_ad G 56)), some (.int x), some (.int y)] (by decide +kernel) rfl (Nat.le_of_ble_eq_true rfl) (by rfl) (fun p e s m args below meth c => ?_)
  refine tv_aload_n (pc := 0) dD_where_0 (by rfl) ?_
  refine tv_aload_n (pc := 1) dD_where_1 (by rfl) ?_
  refine tv_getI (pc := 2) 6 tb_56 (by rfl) uwD_ (by decide) wm_668 (by rfl) dD_where_2 ?_
  refine tv_if_ne (pc := 5) 12 dD_where_5 (by decide) (fun h => absurd h (fun z => z hm)) (fun _ => ?_)
  refine tv_iconst (v := 1) (pc := 8) dD_where_8 (by decide) ?_
  refine tv_goto (pc := 9) 38 dD_where_9 (by decide) ?_
  refine tv_putI (ty := .int) (pc := 38) 0 tyD_ tb_56 (by rfl) uwD_ (by decide) wm_662 okD_ nmD_ (by rfl) (by decide +kernel) (by rfl) (by rfl) (by rfl) dD_where_38 ?_
  refine tv_aload_n (pc := 41) dD_where_41 (by rfl) ?_
  refine tv_getI (pc := 42) 0 tb_56 (by rfl) uwD_ (by decide) wm_662 (by rfl) dD_where_42 ?_
  refine tv_if_le (pc := 45) 52 dD_where_45 (by decide) (fun h => absurd h (by rw [tc_up_self]; decide)) (fun _ => ?_)
  refine tv_iconst (v := 0) (pc := 48) dD_where_48 (by decide) ?_
  refine tv_goto (pc := 49) 58 dD_where_49 (by decide) ?_
  exact tv_iret (pc := 58) dD_where_58 rfl (Nat.le_refl _) (Nat.le_refl _) ⟨rfl, rfl⟩
set_option maxRecDepth 100000 in
set_option maxHeartbeats 4000000 in
theorem c_D_where2 (l : Launch) (G : tc_G) (u : tc_S) (hm : u 56 6 = 1) {n : Nat} (hs : u 56 1 = nI n) (hn : n ≤ 16) (x y : Int32) (ho : ¬ ((¬ x < 0 ∧ ¬ nI (n + 1) ≤ x) ∧ (¬ y < 0 ∧ ¬ 3 ≤ y))) : tc_C tcx G l yD_where wD_where r0D_where 0 0 [.ref (tc_ad G 56), .int x, .int y] u (tc_Ki 0 (tc_up u 56 0 2)) := by
  refine tw_ofV (own := "TracedCodeModel") [some (.ref (tc_ad G 56)), some (.int x), some (.int y)] (by decide +kernel) rfl (Nat.le_of_ble_eq_true rfl) (by rfl) (fun p e s m args below meth c => ?_)
  refine tv_aload_n (pc := 0) dD_where_0 (by rfl) ?_
  refine tv_aload_n (pc := 1) dD_where_1 (by rfl) ?_
  refine tv_getI (pc := 2) 6 tb_56 (by rfl) uwD_ (by decide) wm_668 (by rfl) dD_where_2 ?_
  refine tv_if_ne (pc := 5) 12 dD_where_5 (by decide) (fun _ => ?_) (fun h => absurd h (by rw [hm]; decide))
  refine tv_iload_n (pc := 12) dD_where_12 (by rfl) ?_
  refine tv_if_lt (pc := 13) 33 dD_where_13 (by decide) (fun h13 => ?_) (fun h13 => ?_)
  · skip
    refine tv_iconst (v := 2) (pc := 33) dD_where_33 (by decide) ?_
    refine tv_goto (pc := 34) 38 dD_where_34 (by decide) ?_
    refine tv_putI (ty := .int) (pc := 38) 0 tyD_ tb_56 (by rfl) uwD_ (by decide) wm_662 okD_ nmD_ (by rfl) (by decide +kernel) (by rfl) (by rfl) (by rfl) dD_where_38 ?_
    refine tv_aload_n (pc := 41) dD_where_41 (by rfl) ?_
    refine tv_getI (pc := 42) 0 tb_56 (by rfl) uwD_ (by decide) wm_662 (by rfl) dD_where_42 ?_
    refine tv_if_le (pc := 45) 52 dD_where_45 (by decide) (fun h => absurd h (by rw [tc_up_self]; decide)) (fun _ => ?_)
    refine tv_iconst (v := 0) (pc := 48) dD_where_48 (by decide) ?_
    refine tv_goto (pc := 49) 58 dD_where_49 (by decide) ?_
    exact tv_iret (pc := 58) dD_where_58 rfl (Nat.le_refl _) (Nat.le_refl _) ⟨rfl, rfl⟩
  · skip
    refine tv_iload_n (pc := 16) dD_where_16 (by rfl) ?_
    refine tv_aload_n (pc := 17) dD_where_17 (by rfl) ?_
    refine tv_getI (pc := 18) 1 tb_56 (by rfl) uwD_ (by decide) wm_663 (by rfl) dD_where_18 ?_
    rw [hs]
    refine tv_icmp_gt (pc := 21) 33 dD_where_21 (by decide) (fun h21 => ?_) (fun h21 => ?_)
    · skip
      refine tv_iconst (v := 2) (pc := 33) dD_where_33 (by decide) ?_
      refine tv_goto (pc := 34) 38 dD_where_34 (by decide) ?_
      refine tv_putI (ty := .int) (pc := 38) 0 tyD_ tb_56 (by rfl) uwD_ (by decide) wm_662 okD_ nmD_ (by rfl) (by decide +kernel) (by rfl) (by rfl) (by rfl) dD_where_38 ?_
      refine tv_aload_n (pc := 41) dD_where_41 (by rfl) ?_
      refine tv_getI (pc := 42) 0 tb_56 (by rfl) uwD_ (by decide) wm_662 (by rfl) dD_where_42 ?_
      refine tv_if_le (pc := 45) 52 dD_where_45 (by decide) (fun h => absurd h (by rw [tc_up_self]; decide)) (fun _ => ?_)
      refine tv_iconst (v := 0) (pc := 48) dD_where_48 (by decide) ?_
      refine tv_goto (pc := 49) 58 dD_where_49 (by decide) ?_
      exact tv_iret (pc := 58) dD_where_58 rfl (Nat.le_refl _) (Nat.le_refl _) ⟨rfl, rfl⟩
    · skip
      refine tv_iload_n (pc := 24) dD_where_24 (by rfl) ?_
      refine tv_if_lt (pc := 25) 33 dD_where_25 (by decide) (fun h25 => ?_) (fun h25 => ?_)
      · skip
        refine tv_iconst (v := 2) (pc := 33) dD_where_33 (by decide) ?_
        refine tv_goto (pc := 34) 38 dD_where_34 (by decide) ?_
        refine tv_putI (ty := .int) (pc := 38) 0 tyD_ tb_56 (by rfl) uwD_ (by decide) wm_662 okD_ nmD_ (by rfl) (by decide +kernel) (by rfl) (by rfl) (by rfl) dD_where_38 ?_
        refine tv_aload_n (pc := 41) dD_where_41 (by rfl) ?_
        refine tv_getI (pc := 42) 0 tb_56 (by rfl) uwD_ (by decide) wm_662 (by rfl) dD_where_42 ?_
        refine tv_if_le (pc := 45) 52 dD_where_45 (by decide) (fun h => absurd h (by rw [tc_up_self]; decide)) (fun _ => ?_)
        refine tv_iconst (v := 0) (pc := 48) dD_where_48 (by decide) ?_
        refine tv_goto (pc := 49) 58 dD_where_49 (by decide) ?_
        exact tv_iret (pc := 58) dD_where_58 rfl (Nat.le_refl _) (Nat.le_refl _) ⟨rfl, rfl⟩
      · skip
        refine tv_iload_n (pc := 28) dD_where_28 (by rfl) ?_
        refine tv_iconst (v := 2) (pc := 29) dD_where_29 (by decide) ?_
        refine tv_icmp_le (pc := 30) 37 dD_where_30 (by decide) (fun h30 => ?_) (fun h30 => ?_)
        · skip
          exact absurd ⟨⟨by assumption, fun z => absurd ((gtn hn).mpr z) (by assumption)⟩, by assumption, fun z => absurd (by assumption) (le2.mpr z)⟩ ho
        · skip
          refine tv_iconst (v := 2) (pc := 33) dD_where_33 (by decide) ?_
          refine tv_goto (pc := 34) 38 dD_where_34 (by decide) ?_
          refine tv_putI (ty := .int) (pc := 38) 0 tyD_ tb_56 (by rfl) uwD_ (by decide) wm_662 okD_ nmD_ (by rfl) (by decide +kernel) (by rfl) (by rfl) (by rfl) dD_where_38 ?_
          refine tv_aload_n (pc := 41) dD_where_41 (by rfl) ?_
          refine tv_getI (pc := 42) 0 tb_56 (by rfl) uwD_ (by decide) wm_662 (by rfl) dD_where_42 ?_
          refine tv_if_le (pc := 45) 52 dD_where_45 (by decide) (fun h => absurd h (by rw [tc_up_self]; decide)) (fun _ => ?_)
          refine tv_iconst (v := 0) (pc := 48) dD_where_48 (by decide) ?_
          refine tv_goto (pc := 49) 58 dD_where_49 (by decide) ?_
          exact tv_iret (pc := 58) dD_where_58 rfl (Nat.le_refl _) (Nat.le_refl _) ⟨rfl, rfl⟩
set_option maxRecDepth 100000 in
set_option maxHeartbeats 4000000 in
theorem c_D_where (l : Launch) (G : tc_G) (u : tc_S) (hm : u 56 6 = 1) {n q x : Nat} (hs : u 56 1 = nI n) (hn : n ≤ 16) (hq : q ≤ n) (hx : x < 3) (hR : fc_R n (pm u 0) (pm u 16) (u 68) (u 69)) (hre : ∀ i, i ≤ n → u 65 i = 1) : tc_C tcx G l yD_where wD_where r0D_where 0 0 [.ref (tc_ad G 56), .int (nI q), .int (nI x)] u (tc_KI (fun r0 v => tp_pl n (pm u 0) (pm u 16) q (6 + x) r0 ∧ ic_F (tc_up u 56 0 0) v)) := by
  refine tw_ofV (own := "TracedCodeModel") [some (.ref (tc_ad G 56)), some (.int (nI q)), some (.int (nI x))] (by decide +kernel) rfl (Nat.le_of_ble_eq_true rfl) (by rfl) (fun p e s m args below meth c => ?_)
  have q16 : ∀ o, pm (tc_up u 56 0 0) o = pm u o := fun o => by
    funext j i; unfold pm
    by_cases hj : j < 4
    · rw [if_pos hj, if_pos hj, tc_up_ne (by omega)]
    · rw [if_neg hj, if_neg hj]
  have pl := c_D_placeOf l G (tc_up u 56 0 0) (n := n) (q := q) (x := x) (by rw [tc_up_at (by decide)]; exact hs) hn hq hx (by rw [q16, q16, tc_up_ne (by decide), tc_up_ne (by decide)]; exact hR) (by rw [tc_up_ne (by decide)]; exact hre)
  rw [q16, q16] at pl
  refine tv_aload_n (pc := 0) dD_where_0 (by rfl) ?_
  refine tv_aload_n (pc := 1) dD_where_1 (by rfl) ?_
  refine tv_getI (pc := 2) 6 tb_56 (by rfl) uwD_ (by decide) wm_668 (by rfl) dD_where_2 ?_
  refine tv_if_ne (pc := 5) 12 dD_where_5 (by decide) (fun _ => ?_) (fun h => absurd h (by rw [hm]; decide))
  refine tv_iload_n (pc := 12) dD_where_12 (by rfl) ?_
  refine tv_if_lt (pc := 13) 33 dD_where_13 (by decide) (fun h => absurd h (nI_pos (by omega))) (fun _ => ?_)
  refine tv_iload_n (pc := 16) dD_where_16 (by rfl) ?_
  refine tv_aload_n (pc := 17) dD_where_17 (by rfl) ?_
  refine tv_getI (pc := 18) 1 tb_56 (by rfl) uwD_ (by decide) wm_663 (by rfl) dD_where_18 ?_
  refine tv_icmp_gt (pc := 21) 33 dD_where_21 (by decide) (fun h => absurd h (by rw [hs]; exact nI_nlt hq (by omega))) (fun _ => ?_)
  refine tv_iload_n (pc := 24) dD_where_24 (by rfl) ?_
  refine tv_if_lt (pc := 25) 33 dD_where_25 (by decide) (fun h => absurd h (nI_pos (by omega))) (fun _ => ?_)
  refine tv_iload_n (pc := 28) dD_where_28 (by rfl) ?_
  refine tv_iconst (v := 2) (pc := 29) dD_where_29 (by decide) ?_
  refine tv_icmp_le (pc := 30) 37 dD_where_30 (by decide) (fun _ => ?_) (fun h => absurd (nI_le (b := 2) (by omega) (by decide)) h)
  refine tv_iconst (v := 0) (pc := 37) dD_where_37 (by decide) ?_
  refine tv_putI (ty := .int) (pc := 38) 0 tyD_ tb_56 (by rfl) uwD_ (by decide) wm_662 okD_ nmD_ (by rfl) (by decide +kernel) (by rfl) (by rfl) (by rfl) dD_where_38 ?_
  refine tv_aload_n (pc := 41) dD_where_41 (by rfl) ?_
  refine tv_getI (pc := 42) 0 tb_56 (by rfl) uwD_ (by decide) wm_662 (by rfl) dD_where_42 ?_
  refine tv_if_le (pc := 45) 52 dD_where_45 (by decide) (fun _ => ?_) (fun h => absurd (by rw [tc_up_self]; decide) h)
  refine tv_aload_n (pc := 52) dD_where_52 (by rfl) ?_
  refine tv_iload_n (pc := 53) dD_where_53 (by rfl) ?_
  refine tv_iload_n (pc := 54) dD_where_54 (by rfl) ?_
  refine tv_callVI (pc := 55) [_, _] tb_56 (by rfl) pl (kVD_placeOf wm_865 ⟨by decide, by decide⟩) (by rfl) (Nat.le_of_ble_eq_true rfl) dD_where_55 ⟨by decide, by decide⟩ (fun r0 w hw => ?_)
  exact tv_iret (pc := 58) dD_where_58 rfl (Nat.le_refl _) (Nat.le_refl _) ⟨_, rfl, hw⟩
set_option maxRecDepth 100000 in
set_option maxHeartbeats 4000000 in
theorem c_D_carriersM (l : Launch) (G : tc_G) (u : tc_S) (hm : u 56 6 = 0) (x y : Int32) : tc_C tcx G l yD_carriers wD_carriers r0D_carriers 0 0 [.ref (tc_ad G 56), .int x, .int y] u (tc_Ki 0 (tc_up u 56 0 1)) := by
  refine tw_ofV (own := "TracedCodeModel") [some (.ref (tc_ad G 56)), some (.int x), some (.int y)] (by decide +kernel) rfl (Nat.le_of_ble_eq_true rfl) (by rfl) (fun p e s m args below meth c => ?_)
  refine tv_aload_n (pc := 0) dD_carriers_0 (by rfl) ?_
  refine tv_aload_n (pc := 1) dD_carriers_1 (by rfl) ?_
  refine tv_getI (pc := 2) 6 tb_56 (by rfl) uwD_ (by decide) wm_668 (by rfl) dD_carriers_2 ?_
  refine tv_if_ne (pc := 5) 12 dD_carriers_5 (by decide) (fun h => absurd h (fun z => z hm)) (fun _ => ?_)
  refine tv_iconst (v := 1) (pc := 8) dD_carriers_8 (by decide) ?_
  refine tv_goto (pc := 9) 36 dD_carriers_9 (by decide) ?_
  refine tv_putI (ty := .int) (pc := 36) 0 tyD_ tb_56 (by rfl) uwD_ (by decide) wm_662 okD_ nmD_ (by rfl) (by decide +kernel) (by rfl) (by rfl) (by rfl) dD_carriers_36 ?_
  refine tv_aload_n (pc := 39) dD_carriers_39 (by rfl) ?_
  refine tv_getI (pc := 40) 0 tb_56 (by rfl) uwD_ (by decide) wm_662 (by rfl) dD_carriers_40 ?_
  refine tv_if_gt (pc := 43) 55 dD_carriers_43 (by decide) (fun _ => ?_) (fun h => absurd (by rw [tc_up_self]; decide) h)
  refine tv_iconst (v := 0) (pc := 55) dD_carriers_55 (by decide) ?_
  refine tv_goto (pc := 56) 75 dD_carriers_56 (by decide) ?_
  exact tv_iret (pc := 75) dD_carriers_75 rfl (Nat.le_refl _) (Nat.le_refl _) ⟨rfl, rfl⟩
set_option maxRecDepth 100000 in
set_option maxHeartbeats 4000000 in
theorem c_D_carriers2 (l : Launch) (G : tc_G) (u : tc_S) (hm : u 56 6 = 1) {n : Nat} (hs : u 56 1 = nI n) (hn : n ≤ 16) (x y : Int32) (ho : ¬ ((¬ x < 0 ∧ ¬ nI (n + 1) ≤ x) ∧ (¬ y < 0 ∧ ¬ 6 ≤ y))) : tc_C tcx G l yD_carriers wD_carriers r0D_carriers 0 0 [.ref (tc_ad G 56), .int x, .int y] u (tc_Ki 0 (tc_up u 56 0 2)) := by
  refine tw_ofV (own := "TracedCodeModel") [some (.ref (tc_ad G 56)), some (.int x), some (.int y)] (by decide +kernel) rfl (Nat.le_of_ble_eq_true rfl) (by rfl) (fun p e s m args below meth c => ?_)
  refine tv_aload_n (pc := 0) dD_carriers_0 (by rfl) ?_
  refine tv_aload_n (pc := 1) dD_carriers_1 (by rfl) ?_
  refine tv_getI (pc := 2) 6 tb_56 (by rfl) uwD_ (by decide) wm_668 (by rfl) dD_carriers_2 ?_
  refine tv_if_ne (pc := 5) 12 dD_carriers_5 (by decide) (fun _ => ?_) (fun h => absurd h (by rw [hm]; decide))
  refine tv_iload_n (pc := 12) dD_carriers_12 (by rfl) ?_
  refine tv_if_lt (pc := 13) 31 dD_carriers_13 (by decide) (fun h13 => ?_) (fun h13 => ?_)
  · skip
    refine tv_iconst (v := 2) (pc := 31) dD_carriers_31 (by decide) ?_
    refine tv_goto (pc := 32) 36 dD_carriers_32 (by decide) ?_
    refine tv_putI (ty := .int) (pc := 36) 0 tyD_ tb_56 (by rfl) uwD_ (by decide) wm_662 okD_ nmD_ (by rfl) (by decide +kernel) (by rfl) (by rfl) (by rfl) dD_carriers_36 ?_
    refine tv_aload_n (pc := 39) dD_carriers_39 (by rfl) ?_
    refine tv_getI (pc := 40) 0 tb_56 (by rfl) uwD_ (by decide) wm_662 (by rfl) dD_carriers_40 ?_
    refine tv_if_gt (pc := 43) 55 dD_carriers_43 (by decide) (fun _ => ?_) (fun h => absurd (by rw [tc_up_self]; decide) h)
    refine tv_iconst (v := 0) (pc := 55) dD_carriers_55 (by decide) ?_
    refine tv_goto (pc := 56) 75 dD_carriers_56 (by decide) ?_
    exact tv_iret (pc := 75) dD_carriers_75 rfl (Nat.le_refl _) (Nat.le_refl _) ⟨rfl, rfl⟩
  · skip
    refine tv_iload_n (pc := 16) dD_carriers_16 (by rfl) ?_
    refine tv_aload_n (pc := 17) dD_carriers_17 (by rfl) ?_
    refine tv_getI (pc := 18) 1 tb_56 (by rfl) uwD_ (by decide) wm_663 (by rfl) dD_carriers_18 ?_
    rw [hs]
    refine tv_icmp_gt (pc := 21) 31 dD_carriers_21 (by decide) (fun h21 => ?_) (fun h21 => ?_)
    · skip
      refine tv_iconst (v := 2) (pc := 31) dD_carriers_31 (by decide) ?_
      refine tv_goto (pc := 32) 36 dD_carriers_32 (by decide) ?_
      refine tv_putI (ty := .int) (pc := 36) 0 tyD_ tb_56 (by rfl) uwD_ (by decide) wm_662 okD_ nmD_ (by rfl) (by decide +kernel) (by rfl) (by rfl) (by rfl) dD_carriers_36 ?_
      refine tv_aload_n (pc := 39) dD_carriers_39 (by rfl) ?_
      refine tv_getI (pc := 40) 0 tb_56 (by rfl) uwD_ (by decide) wm_662 (by rfl) dD_carriers_40 ?_
      refine tv_if_gt (pc := 43) 55 dD_carriers_43 (by decide) (fun _ => ?_) (fun h => absurd (by rw [tc_up_self]; decide) h)
      refine tv_iconst (v := 0) (pc := 55) dD_carriers_55 (by decide) ?_
      refine tv_goto (pc := 56) 75 dD_carriers_56 (by decide) ?_
      exact tv_iret (pc := 75) dD_carriers_75 rfl (Nat.le_refl _) (Nat.le_refl _) ⟨rfl, rfl⟩
    · skip
      refine tv_iload_n (pc := 24) dD_carriers_24 (by rfl) ?_
      refine tv_callSi (pc := 25) [_] (c_D_noRegister l G u _) (kSD_noRegister wm_752 ⟨by decide, by decide⟩) (by rfl) (Nat.le_of_ble_eq_true rfl) dD_carriers_25 ⟨by decide, by decide⟩ ?_
      refine tv_if_eq (pc := 28) 35 dD_carriers_28 (by decide) (fun h28 => ?_) (fun h28 => ?_)
      · skip
        exact absurd ⟨⟨by assumption, fun z => absurd ((gtn hn).mpr z) (by assumption)⟩, Classical.byContradiction fun z => tp_b_q (by assumption) z⟩ ho
      · skip
        refine tv_iconst (v := 2) (pc := 31) dD_carriers_31 (by decide) ?_
        refine tv_goto (pc := 32) 36 dD_carriers_32 (by decide) ?_
        refine tv_putI (ty := .int) (pc := 36) 0 tyD_ tb_56 (by rfl) uwD_ (by decide) wm_662 okD_ nmD_ (by rfl) (by decide +kernel) (by rfl) (by rfl) (by rfl) dD_carriers_36 ?_
        refine tv_aload_n (pc := 39) dD_carriers_39 (by rfl) ?_
        refine tv_getI (pc := 40) 0 tb_56 (by rfl) uwD_ (by decide) wm_662 (by rfl) dD_carriers_40 ?_
        refine tv_if_gt (pc := 43) 55 dD_carriers_43 (by decide) (fun _ => ?_) (fun h => absurd (by rw [tc_up_self]; decide) h)
        refine tv_iconst (v := 0) (pc := 55) dD_carriers_55 (by decide) ?_
        refine tv_goto (pc := 56) 75 dD_carriers_56 (by decide) ?_
        exact tv_iret (pc := 75) dD_carriers_75 rfl (Nat.le_refl _) (Nat.le_refl _) ⟨rfl, rfl⟩
set_option maxRecDepth 100000 in
set_option maxHeartbeats 4000000 in
theorem c_D_carriers (l : Launch) (G : tc_G) (u : tc_S) (hm : u 56 6 = 1) {n q r : Nat} (hs : u 56 1 = nI n) (hn : n ≤ 16) (hq : q ≤ n) (hr : r < 6) (hre : ∀ i, i ≤ n → u 65 i = 1) : tc_C tcx G l yD_carriers wD_carriers r0D_carriers 0 0 [.ref (tc_ad G 56), .int (nI q), .int (nI r)] u (tc_Ki (63 &&& (u 68 (9 * q + r) ^^^ (-1))) (tc_up u 56 0 0)) := by
  refine tw_ofV (own := "TracedCodeModel") [some (.ref (tc_ad G 56)), some (.int (nI q)), some (.int (nI r))] (by decide +kernel) rfl (Nat.le_of_ble_eq_true rfl) (by rfl) (fun p e s m args below meth c => ?_)
  have i17 : tc_ix (nI q) 17 q := tc_ixN (by omega) (by decide)
  have i153 := ix153 (i := q) (r := r) (by omega) (by omega)
  have z65 : (tc_up u 56 0 0) 65 q = 1 := by rw [tc_up_ne (by decide)]; exact hre q hq
  refine tv_aload_n (pc := 0) dD_carriers_0 (by rfl) ?_
  refine tv_aload_n (pc := 1) dD_carriers_1 (by rfl) ?_
  refine tv_getI (pc := 2) 6 tb_56 (by rfl) uwD_ (by decide) wm_668 (by rfl) dD_carriers_2 ?_
  refine tv_if_ne (pc := 5) 12 dD_carriers_5 (by decide) (fun _ => ?_) (fun h => absurd h (by rw [hm]; decide))
  refine tv_iload_n (pc := 12) dD_carriers_12 (by rfl) ?_
  refine tv_if_lt (pc := 13) 31 dD_carriers_13 (by decide) (fun h => absurd h (nI_pos (by omega))) (fun _ => ?_)
  refine tv_iload_n (pc := 16) dD_carriers_16 (by rfl) ?_
  refine tv_aload_n (pc := 17) dD_carriers_17 (by rfl) ?_
  refine tv_getI (pc := 18) 1 tb_56 (by rfl) uwD_ (by decide) wm_663 (by rfl) dD_carriers_18 ?_
  refine tv_icmp_gt (pc := 21) 31 dD_carriers_21 (by decide) (fun h => absurd h (by rw [hs]; exact nI_nlt hq (by omega))) (fun _ => ?_)
  refine tv_iload_n (pc := 24) dD_carriers_24 (by rfl) ?_
  refine tv_callSi (pc := 25) [_] (c_D_noRegister l G u _) (kSD_noRegister wm_752 ⟨by decide, by decide⟩) (by rfl) (Nat.le_of_ble_eq_true rfl) dD_carriers_25 ⟨by decide, by decide⟩ ?_
  refine tv_if_eq (pc := 28) 35 dD_carriers_28 (by decide) (fun _ => ?_) (fun h => absurd (tp_b_f (fun z => z (tq_of (b := 6) (by decide) hr))) h)
  refine tv_iconst (v := 0) (pc := 35) dD_carriers_35 (by decide) ?_
  refine tv_putI (ty := .int) (pc := 36) 0 tyD_ tb_56 (by rfl) uwD_ (by decide) wm_662 okD_ nmD_ (by rfl) (by decide +kernel) (by rfl) (by rfl) (by rfl) dD_carriers_36 ?_
  refine tv_aload_n (pc := 39) dD_carriers_39 (by rfl) ?_
  refine tv_getI (pc := 40) 0 tb_56 (by rfl) uwD_ (by decide) wm_662 (by rfl) dD_carriers_40 ?_
  refine tv_if_gt (pc := 43) 55 dD_carriers_43 (by decide) (fun h => absurd h (by rw [tc_up_self]; decide)) (fun _ => ?_)
  refine tv_aload_n (pc := 46) dD_carriers_46 (by rfl) ?_
  refine tv_getR (pc := 47) 11 tb_56 (by rfl) uwD_ (by decide) wm_673 (by rfl) dD_carriers_47 ?_
  refine tv_iload_n (pc := 50) dD_carriers_50 (by rfl) ?_
  refine tv_zald (pc := 51) tb_65 (by assumption) dD_carriers_51 ?_
  refine tv_if_ne (pc := 52) 59 dD_carriers_52 (by decide) (fun _ => ?_) (fun h => absurd h (by rw [z65]; decide))
  refine tv_bipush (v := 63) (pc := 59) dD_carriers_59 (by decide) ?_
  refine tv_aload_n (pc := 61) dD_carriers_61 (by rfl) ?_
  refine tv_getR (pc := 62) 15 tb_56 (by rfl) uwD_ (by decide) wm_677 (by rfl) dD_carriers_62 ?_
  refine tv_bipush (v := 9) (pc := 65) dD_carriers_65 (by decide) ?_
  refine tv_iload_n (pc := 67) dD_carriers_67 (by rfl) ?_
  refine tv_imul (pc := 68) dD_carriers_68 ?_
  refine tv_iload_n (pc := 69) dD_carriers_69 (by rfl) ?_
  refine tv_iadd (pc := 70) dD_carriers_70 ?_
  refine tv_iald (pc := 71) tb_68 (by assumption) dD_carriers_71 ?_
  refine tv_iconst (v := (-1)) (pc := 72) dD_carriers_72 (by decide) ?_
  refine tv_ixor (pc := 73) dD_carriers_73 ?_
  refine tv_iand (pc := 74) dD_carriers_74 ?_
  exact tv_iret (pc := 75) dD_carriers_75 rfl (Nat.le_refl _) (Nat.le_refl _) ⟨by rw [tc_up_ne (by decide)], rfl⟩
set_option maxRecDepth 100000 in
set_option maxHeartbeats 4000000 in
theorem c_D_restartM (l : Launch) (G : tc_G) (u : tc_S) (hm : u 56 6 = 0) : tc_C tcx G l yD_restart wD_restart r0D_restart 0 0 [.ref (tc_ad G 56)] u (tc_Kv (tc_up u 56 0 1)) := by
  refine tw_ofV (own := "TracedCodeModel") [some (.ref (tc_ad G 56))] (by decide +kernel) rfl (Nat.le_of_ble_eq_true rfl) (by rfl) (fun p e s m args below meth c => ?_)
  refine tv_aload_n (pc := 0) dD_restart_0 (by rfl) ?_
  refine tv_aload_n (pc := 1) dD_restart_1 (by rfl) ?_
  refine tv_getI (pc := 2) 6 tb_56 (by rfl) uwD_ (by decide) wm_668 (by rfl) dD_restart_2 ?_
  refine tv_if_eq (pc := 5) 12 dD_restart_5 (by decide) (fun _ => ?_) (fun h => absurd hm h)
  refine tv_iconst (v := 1) (pc := 12) dD_restart_12 (by decide) ?_
  refine tv_putI (ty := .int) (pc := 13) 0 tyD_ tb_56 (by rfl) uwD_ (by decide) wm_662 okD_ nmD_ (by rfl) (by decide +kernel) (by rfl) (by rfl) (by rfl) dD_restart_13 ?_
  refine tv_aload_n (pc := 16) dD_restart_16 (by rfl) ?_
  refine tv_getI (pc := 17) 6 tb_56 (by rfl) uwD_ (by decide) wm_668 (by rfl) dD_restart_17 ?_
  refine tv_if_eq (pc := 20) 27 dD_restart_20 (by decide) (fun _ => ?_) (fun h => absurd (by rw [tc_up_at (by decide)]; exact hm) h)
  exact tv_vret (pc := 27) dD_restart_27 rfl (Nat.le_refl _) (Nat.le_refl _) ⟨rfl, rfl⟩
set_option maxRecDepth 100000 in
set_option maxHeartbeats 4000000 in
theorem c_D_restart (l : Launch) (G : tc_G) (u : tc_S) (hm : u 56 6 = 1) : tc_C tcx G l yD_restart wD_restart r0D_restart 0 0 [.ref (tc_ad G 56)] u (tc_Kv (bg_ (tc_up u 56 0 0))) := by
  refine tw_ofV (own := "TracedCodeModel") [some (.ref (tc_ad G 56))] (by decide +kernel) rfl (Nat.le_of_ble_eq_true rfl) (by rfl) (fun p e s m args below meth c => ?_)
  refine tv_aload_n (pc := 0) dD_restart_0 (by rfl) ?_
  refine tv_aload_n (pc := 1) dD_restart_1 (by rfl) ?_
  refine tv_getI (pc := 2) 6 tb_56 (by rfl) uwD_ (by decide) wm_668 (by rfl) dD_restart_2 ?_
  refine tv_if_eq (pc := 5) 12 dD_restart_5 (by decide) (fun h => absurd h (by rw [hm]; decide)) (fun _ => ?_)
  refine tv_iconst (v := 0) (pc := 8) dD_restart_8 (by decide) ?_
  refine tv_goto (pc := 9) 13 dD_restart_9 (by decide) ?_
  refine tv_putI (ty := .int) (pc := 13) 0 tyD_ tb_56 (by rfl) uwD_ (by decide) wm_662 okD_ nmD_ (by rfl) (by decide +kernel) (by rfl) (by rfl) (by rfl) dD_restart_13 ?_
  refine tv_aload_n (pc := 16) dD_restart_16 (by rfl) ?_
  refine tv_getI (pc := 17) 6 tb_56 (by rfl) uwD_ (by decide) wm_668 (by rfl) dD_restart_17 ?_
  refine tv_if_eq (pc := 20) 27 dD_restart_20 (by decide) (fun h => absurd h (by rw [tc_up_at (by decide), hm]; decide)) (fun _ => ?_)
  refine tv_aload_n (pc := 23) dD_restart_23 (by rfl) ?_
  refine tv_callVv (pc := 24) [] tb_56 (by rfl) (c_D_begin l G _) (kVD_begin wm_849 ⟨by decide, by decide⟩) (by rfl) (Nat.le_of_ble_eq_true rfl) dD_restart_24 ⟨by decide, by decide⟩ ?_
  exact tv_vret (pc := 27) dD_restart_27 rfl (Nat.le_refl _) (Nat.le_refl _) ⟨rfl, rfl⟩
set_option maxRecDepth 100000 in
set_option maxHeartbeats 4000000 in
theorem c_D_lineM (l : Launch) (G : tc_G) (u : tc_S) (hm : u 56 6 = 0) : tc_C tcx G l yD_line wD_line r0D_line 0 0 [.ref (tc_ad G 56)] u (tc_Ki 0 (tc_up u 56 0 1)) := by
  refine tw_ofV (own := "TracedCodeModel") [some (.ref (tc_ad G 56))] (by decide +kernel) rfl (Nat.le_of_ble_eq_true rfl) (by rfl) (fun p e s m args below meth c => ?_)
  refine tv_aload_n (pc := 0) dD_line_0 (by rfl) ?_
  refine tv_aload_n (pc := 1) dD_line_1 (by rfl) ?_
  refine tv_getI (pc := 2) 6 tb_56 (by rfl) uwD_ (by decide) wm_668 (by rfl) dD_line_2 ?_
  refine tv_if_eq (pc := 5) 12 dD_line_5 (by decide) (fun _ => ?_) (fun h => absurd hm h)
  refine tv_iconst (v := 1) (pc := 12) dD_line_12 (by decide) ?_
  refine tv_putI (ty := .int) (pc := 13) 0 tyD_ tb_56 (by rfl) uwD_ (by decide) wm_662 okD_ nmD_ (by rfl) (by decide +kernel) (by rfl) (by rfl) (by rfl) dD_line_13 ?_
  refine tv_aload_n (pc := 16) dD_line_16 (by rfl) ?_
  refine tv_getI (pc := 17) 0 tb_56 (by rfl) uwD_ (by decide) wm_662 (by rfl) dD_line_17 ?_
  refine tv_if_le (pc := 20) 27 dD_line_20 (by decide) (fun h => absurd h (by rw [tc_up_self]; decide)) (fun _ => ?_)
  refine tv_iconst (v := 0) (pc := 23) dD_line_23 (by decide) ?_
  refine tv_goto (pc := 24) 31 dD_line_24 (by decide) ?_
  exact tv_iret (pc := 31) dD_line_31 rfl (Nat.le_refl _) (Nat.le_refl _) ⟨rfl, rfl⟩
set_option maxRecDepth 100000 in
set_option maxHeartbeats 4000000 in
theorem c_D_line (l : Launch) (G : tc_G) (u : tc_S) (hm : u 56 6 = 1) : tc_C tcx G l yD_line wD_line r0D_line 0 0 [.ref (tc_ad G 56)] u (tc_Ki (u 56 19) (tc_up u 56 0 0)) := by
  refine tw_ofV (own := "TracedCodeModel") [some (.ref (tc_ad G 56))] (by decide +kernel) rfl (Nat.le_of_ble_eq_true rfl) (by rfl) (fun p e s m args below meth c => ?_)
  refine tv_aload_n (pc := 0) dD_line_0 (by rfl) ?_
  refine tv_aload_n (pc := 1) dD_line_1 (by rfl) ?_
  refine tv_getI (pc := 2) 6 tb_56 (by rfl) uwD_ (by decide) wm_668 (by rfl) dD_line_2 ?_
  refine tv_if_eq (pc := 5) 12 dD_line_5 (by decide) (fun h => absurd h (by rw [hm]; decide)) (fun _ => ?_)
  refine tv_iconst (v := 0) (pc := 8) dD_line_8 (by decide) ?_
  refine tv_goto (pc := 9) 13 dD_line_9 (by decide) ?_
  refine tv_putI (ty := .int) (pc := 13) 0 tyD_ tb_56 (by rfl) uwD_ (by decide) wm_662 okD_ nmD_ (by rfl) (by decide +kernel) (by rfl) (by rfl) (by rfl) dD_line_13 ?_
  refine tv_aload_n (pc := 16) dD_line_16 (by rfl) ?_
  refine tv_getI (pc := 17) 0 tb_56 (by rfl) uwD_ (by decide) wm_662 (by rfl) dD_line_17 ?_
  refine tv_if_le (pc := 20) 27 dD_line_20 (by decide) (fun _ => ?_) (fun h => absurd (by rw [tc_up_self]; decide) h)
  refine tv_aload_n (pc := 27) dD_line_27 (by rfl) ?_
  refine tv_getI (pc := 28) 19 tb_56 (by rfl) uwD_ (by decide) wm_681 (by rfl) dD_line_28 ?_
  exact tv_iret (pc := 31) dD_line_31 rfl (Nat.le_refl _) (Nat.le_refl _) ⟨by rw [tc_up_at (by decide)], rfl⟩
set_option maxRecDepth 100000 in
set_option maxHeartbeats 4000000 in
theorem c_D_registerM (l : Launch) (G : tc_G) (u : tc_S) (hm : u 56 6 = 0) (x y : Int32) : tc_C tcx G l yD_register wD_register r0D_register 0 0 [.ref (tc_ad G 56), .int x, .int y] u (tc_Ki 0 (tc_up u 56 0 1)) := by
  refine tw_ofV (own := "TracedCodeModel") [some (.ref (tc_ad G 56)), some (.int x), some (.int y)] (by decide +kernel) rfl (Nat.le_of_ble_eq_true rfl) (by rfl) (fun p e s m args below meth c => ?_)
  refine tv_aload_n (pc := 0) dD_register_0 (by rfl) ?_
  refine tv_aload_n (pc := 1) dD_register_1 (by rfl) ?_
  refine tv_getI (pc := 2) 6 tb_56 (by rfl) uwD_ (by decide) wm_668 (by rfl) dD_register_2 ?_
  refine tv_if_ne (pc := 5) 12 dD_register_5 (by decide) (fun h => absurd h (fun z => z hm)) (fun _ => ?_)
  refine tv_iconst (v := 1) (pc := 8) dD_register_8 (by decide) ?_
  refine tv_goto (pc := 9) 24 dD_register_9 (by decide) ?_
  refine tv_putI (ty := .int) (pc := 24) 0 tyD_ tb_56 (by rfl) uwD_ (by decide) wm_662 okD_ nmD_ (by rfl) (by decide +kernel) (by rfl) (by rfl) (by rfl) dD_register_24 ?_
  refine tv_aload_n (pc := 27) dD_register_27 (by rfl) ?_
  refine tv_getI (pc := 28) 0 tb_56 (by rfl) uwD_ (by decide) wm_662 (by rfl) dD_register_28 ?_
  refine tv_if_le (pc := 31) 38 dD_register_31 (by decide) (fun h => absurd h (by rw [tc_up_self]; decide)) (fun _ => ?_)
  refine tv_iconst (v := 0) (pc := 34) dD_register_34 (by decide) ?_
  refine tv_goto (pc := 35) 55 dD_register_35 (by decide) ?_
  exact tv_iret (pc := 55) dD_register_55 rfl (Nat.le_refl _) (Nat.le_refl _) ⟨rfl, rfl⟩
set_option maxRecDepth 100000 in
set_option maxHeartbeats 4000000 in
theorem c_D_register2 (l : Launch) (G : tc_G) (u : tc_S) (hm : u 56 6 = 1) (x y : Int32) (ho : ¬ (¬ x < 0 ∧ ¬ 6 ≤ x)) : tc_C tcx G l yD_register wD_register r0D_register 0 0 [.ref (tc_ad G 56), .int x, .int y] u (tc_Ki 0 (tc_up u 56 0 2)) := by
  refine tw_ofV (own := "TracedCodeModel") [some (.ref (tc_ad G 56)), some (.int x), some (.int y)] (by decide +kernel) rfl (Nat.le_of_ble_eq_true rfl) (by rfl) (fun p e s m args below meth c => ?_)
  refine tv_aload_n (pc := 0) dD_register_0 (by rfl) ?_
  refine tv_aload_n (pc := 1) dD_register_1 (by rfl) ?_
  refine tv_getI (pc := 2) 6 tb_56 (by rfl) uwD_ (by decide) wm_668 (by rfl) dD_register_2 ?_
  refine tv_if_ne (pc := 5) 12 dD_register_5 (by decide) (fun _ => ?_) (fun h => absurd h (by rw [hm]; decide))
  refine tv_iload_n (pc := 12) dD_register_12 (by rfl) ?_
  refine tv_callSi (pc := 13) [_] (c_D_noRegister l G u _) (kSD_noRegister wm_752 ⟨by decide, by decide⟩) (by rfl) (Nat.le_of_ble_eq_true rfl) dD_register_13 ⟨by decide, by decide⟩ ?_
  refine tv_if_eq (pc := 16) 23 dD_register_16 (by decide) (fun h => absurd h (tp_b_1 ho)) (fun _ => ?_)
  refine tv_iconst (v := 2) (pc := 19) dD_register_19 (by decide) ?_
  refine tv_goto (pc := 20) 24 dD_register_20 (by decide) ?_
  refine tv_putI (ty := .int) (pc := 24) 0 tyD_ tb_56 (by rfl) uwD_ (by decide) wm_662 okD_ nmD_ (by rfl) (by decide +kernel) (by rfl) (by rfl) (by rfl) dD_register_24 ?_
  refine tv_aload_n (pc := 27) dD_register_27 (by rfl) ?_
  refine tv_getI (pc := 28) 0 tb_56 (by rfl) uwD_ (by decide) wm_662 (by rfl) dD_register_28 ?_
  refine tv_if_le (pc := 31) 38 dD_register_31 (by decide) (fun h => absurd h (by rw [tc_up_self]; decide)) (fun _ => ?_)
  refine tv_iconst (v := 0) (pc := 34) dD_register_34 (by decide) ?_
  refine tv_goto (pc := 35) 55 dD_register_35 (by decide) ?_
  exact tv_iret (pc := 55) dD_register_55 rfl (Nat.le_refl _) (Nat.le_refl _) ⟨rfl, rfl⟩
set_option maxRecDepth 100000 in
set_option maxHeartbeats 4000000 in
theorem c_D_register_0 (l : Launch) (G : tc_G) (u : tc_S) (hm : u 56 6 = 1) {r : Nat} (hr : r < 6) : tc_C tcx G l yD_register wD_register r0D_register 0 0 [.ref (tc_ad G 56), .int (nI r), .int 0] u (tc_Ki (u 72 (r)) (tc_up u 56 0 0)) := by
  refine tw_ofV (own := "TracedCodeModel") [some (.ref (tc_ad G 56)), some (.int (nI r)), some (.int 0)] (by decide +kernel) rfl (Nat.le_of_ble_eq_true rfl) (by rfl) (fun p e s m args below meth c => ?_)
  have i12 : tc_ix (nI r) 12 r := tc_ixN (by omega) (by decide)
  have j12 : tc_ix (6 + nI r) 12 (6 + r) := by rw [show (6 : Int32) = nI 6 from rfl, nI_add]; exact tc_ixN (by omega) (by decide)
  refine tv_aload_n (pc := 0) dD_register_0 (by rfl) ?_
  refine tv_aload_n (pc := 1) dD_register_1 (by rfl) ?_
  refine tv_getI (pc := 2) 6 tb_56 (by rfl) uwD_ (by decide) wm_668 (by rfl) dD_register_2 ?_
  refine tv_if_ne (pc := 5) 12 dD_register_5 (by decide) (fun _ => ?_) (fun h => absurd h (by rw [hm]; decide))
  refine tv_iload_n (pc := 12) dD_register_12 (by rfl) ?_
  refine tv_callSi (pc := 13) [_] (c_D_noRegister l G u _) (kSD_noRegister wm_752 ⟨by decide, by decide⟩) (by rfl) (Nat.le_of_ble_eq_true rfl) dD_register_13 ⟨by decide, by decide⟩ ?_
  refine tv_if_eq (pc := 16) 23 dD_register_16 (by decide) (fun _ => ?_) (fun h => absurd (tp_b_f (fun z => z (tq_of (b := 6) (by decide) hr))) h)
  refine tv_iconst (v := 0) (pc := 23) dD_register_23 (by decide) ?_
  refine tv_putI (ty := .int) (pc := 24) 0 tyD_ tb_56 (by rfl) uwD_ (by decide) wm_662 okD_ nmD_ (by rfl) (by decide +kernel) (by rfl) (by rfl) (by rfl) dD_register_24 ?_
  refine tv_aload_n (pc := 27) dD_register_27 (by rfl) ?_
  refine tv_getI (pc := 28) 0 tb_56 (by rfl) uwD_ (by decide) wm_662 (by rfl) dD_register_28 ?_
  refine tv_if_le (pc := 31) 38 dD_register_31 (by decide) (fun _ => ?_) (fun h => absurd (by rw [tc_up_self]; decide) h)
  refine tv_aload_n (pc := 38) dD_register_38 (by rfl) ?_
  refine tv_getR (pc := 39) 21 tb_56 (by rfl) uwD_ (by decide) wm_683 (by rfl) dD_register_39 ?_
  refine tv_iload_n (pc := 42) dD_register_42 (by rfl) ?_
  refine tv_if_eq (pc := 43) 53 dD_register_43 (by decide) (fun _ => ?_) (fun h => absurd (by decide) h)
  refine tv_iload_n (pc := 53) dD_register_53 (by rfl) ?_
  refine tv_iald (pc := 54) tb_72 (by assumption) dD_register_54 ?_
  exact tv_iret (pc := 55) dD_register_55 rfl (Nat.le_refl _) (Nat.le_refl _) ⟨by rw [tc_up_ne (by decide)], rfl⟩
set_option maxRecDepth 100000 in
set_option maxHeartbeats 4000000 in
theorem c_D_register_1 (l : Launch) (G : tc_G) (u : tc_S) (hm : u 56 6 = 1) {r : Nat} (hr : r < 6) : tc_C tcx G l yD_register wD_register r0D_register 0 0 [.ref (tc_ad G 56), .int (nI r), .int 1] u (tc_Ki (u 72 (6 + r)) (tc_up u 56 0 0)) := by
  refine tw_ofV (own := "TracedCodeModel") [some (.ref (tc_ad G 56)), some (.int (nI r)), some (.int 1)] (by decide +kernel) rfl (Nat.le_of_ble_eq_true rfl) (by rfl) (fun p e s m args below meth c => ?_)
  have i12 : tc_ix (nI r) 12 r := tc_ixN (by omega) (by decide)
  have j12 : tc_ix (6 + nI r) 12 (6 + r) := by rw [show (6 : Int32) = nI 6 from rfl, nI_add]; exact tc_ixN (by omega) (by decide)
  refine tv_aload_n (pc := 0) dD_register_0 (by rfl) ?_
  refine tv_aload_n (pc := 1) dD_register_1 (by rfl) ?_
  refine tv_getI (pc := 2) 6 tb_56 (by rfl) uwD_ (by decide) wm_668 (by rfl) dD_register_2 ?_
  refine tv_if_ne (pc := 5) 12 dD_register_5 (by decide) (fun _ => ?_) (fun h => absurd h (by rw [hm]; decide))
  refine tv_iload_n (pc := 12) dD_register_12 (by rfl) ?_
  refine tv_callSi (pc := 13) [_] (c_D_noRegister l G u _) (kSD_noRegister wm_752 ⟨by decide, by decide⟩) (by rfl) (Nat.le_of_ble_eq_true rfl) dD_register_13 ⟨by decide, by decide⟩ ?_
  refine tv_if_eq (pc := 16) 23 dD_register_16 (by decide) (fun _ => ?_) (fun h => absurd (tp_b_f (fun z => z (tq_of (b := 6) (by decide) hr))) h)
  refine tv_iconst (v := 0) (pc := 23) dD_register_23 (by decide) ?_
  refine tv_putI (ty := .int) (pc := 24) 0 tyD_ tb_56 (by rfl) uwD_ (by decide) wm_662 okD_ nmD_ (by rfl) (by decide +kernel) (by rfl) (by rfl) (by rfl) dD_register_24 ?_
  refine tv_aload_n (pc := 27) dD_register_27 (by rfl) ?_
  refine tv_getI (pc := 28) 0 tb_56 (by rfl) uwD_ (by decide) wm_662 (by rfl) dD_register_28 ?_
  refine tv_if_le (pc := 31) 38 dD_register_31 (by decide) (fun _ => ?_) (fun h => absurd (by rw [tc_up_self]; decide) h)
  refine tv_aload_n (pc := 38) dD_register_38 (by rfl) ?_
  refine tv_getR (pc := 39) 21 tb_56 (by rfl) uwD_ (by decide) wm_683 (by rfl) dD_register_39 ?_
  refine tv_iload_n (pc := 42) dD_register_42 (by rfl) ?_
  refine tv_if_eq (pc := 43) 53 dD_register_43 (by decide) (fun h => absurd h (by decide)) (fun _ => ?_)
  refine tv_bipush (v := 6) (pc := 46) dD_register_46 (by decide) ?_
  refine tv_iload_n (pc := 48) dD_register_48 (by rfl) ?_
  refine tv_iadd (pc := 49) dD_register_49 ?_
  refine tv_goto (pc := 50) 54 dD_register_50 (by decide) ?_
  refine tv_iald (pc := 54) tb_72 (by assumption) dD_register_54 ?_
  exact tv_iret (pc := 55) dD_register_55 rfl (Nat.le_refl _) (Nat.le_refl _) ⟨by rw [tc_up_ne (by decide)], rfl⟩
set_option maxRecDepth 100000 in
set_option maxHeartbeats 4000000 in
theorem c_D_outputM (l : Launch) (G : tc_G) (u : tc_S) (hm : u 56 6 = 0) (x y : Int32) : tc_C tcx G l yD_output wD_output r0D_output 0 0 [.ref (tc_ad G 56), .int x, .int y] u (tc_Ki 0 (tc_up u 56 0 1)) := by
  refine tw_ofV (own := "TracedCodeModel") [some (.ref (tc_ad G 56)), some (.int x), some (.int y)] (by decide +kernel) rfl (Nat.le_of_ble_eq_true rfl) (by rfl) (fun p e s m args below meth c => ?_)
  refine tv_aload_n (pc := 0) dD_output_0 (by rfl) ?_
  refine tv_aload_n (pc := 1) dD_output_1 (by rfl) ?_
  refine tv_getI (pc := 2) 6 tb_56 (by rfl) uwD_ (by decide) wm_668 (by rfl) dD_output_2 ?_
  refine tv_if_ne (pc := 5) 12 dD_output_5 (by decide) (fun h => absurd h (fun z => z hm)) (fun _ => ?_)
  refine tv_iconst (v := 1) (pc := 8) dD_output_8 (by decide) ?_
  refine tv_goto (pc := 9) 29 dD_output_9 (by decide) ?_
  refine tv_putI (ty := .int) (pc := 29) 0 tyD_ tb_56 (by rfl) uwD_ (by decide) wm_662 okD_ nmD_ (by rfl) (by decide +kernel) (by rfl) (by rfl) (by rfl) dD_output_29 ?_
  refine tv_aload_n (pc := 32) dD_output_32 (by rfl) ?_
  refine tv_getI (pc := 33) 0 tb_56 (by rfl) uwD_ (by decide) wm_662 (by rfl) dD_output_33 ?_
  refine tv_if_le (pc := 36) 43 dD_output_36 (by decide) (fun h => absurd h (by rw [tc_up_self]; decide)) (fun _ => ?_)
  refine tv_iconst (v := 0) (pc := 39) dD_output_39 (by decide) ?_
  refine tv_goto (pc := 40) 61 dD_output_40 (by decide) ?_
  exact tv_iret (pc := 61) dD_output_61 rfl (Nat.le_refl _) (Nat.le_refl _) ⟨rfl, rfl⟩
set_option maxRecDepth 100000 in
set_option maxHeartbeats 4000000 in
theorem c_D_output2 (l : Launch) (G : tc_G) (u : tc_S) (hm : u 56 6 = 1) {c0 : Nat} (hc : u 56 24 = nI c0) (x y : Int32) (ho : ¬ (¬ x < 0 ∧ ¬ nI c0 ≤ x)) : tc_C tcx G l yD_output wD_output r0D_output 0 0 [.ref (tc_ad G 56), .int x, .int y] u (tc_Ki 0 (tc_up u 56 0 2)) := by
  refine tw_ofV (own := "TracedCodeModel") [some (.ref (tc_ad G 56)), some (.int x), some (.int y)] (by decide +kernel) rfl (Nat.le_of_ble_eq_true rfl) (by rfl) (fun p e s m args below meth c => ?_)
  refine tv_aload_n (pc := 0) dD_output_0 (by rfl) ?_
  refine tv_aload_n (pc := 1) dD_output_1 (by rfl) ?_
  refine tv_getI (pc := 2) 6 tb_56 (by rfl) uwD_ (by decide) wm_668 (by rfl) dD_output_2 ?_
  refine tv_if_ne (pc := 5) 12 dD_output_5 (by decide) (fun _ => ?_) (fun h => absurd h (by rw [hm]; decide))
  refine tv_iload_n (pc := 12) dD_output_12 (by rfl) ?_
  refine tv_if_lt (pc := 13) 24 dD_output_13 (by decide) (fun h13 => ?_) (fun h13 => ?_)
  · skip
    refine tv_iconst (v := 2) (pc := 24) dD_output_24 (by decide) ?_
    refine tv_goto (pc := 25) 29 dD_output_25 (by decide) ?_
    refine tv_putI (ty := .int) (pc := 29) 0 tyD_ tb_56 (by rfl) uwD_ (by decide) wm_662 okD_ nmD_ (by rfl) (by decide +kernel) (by rfl) (by rfl) (by rfl) dD_output_29 ?_
    refine tv_aload_n (pc := 32) dD_output_32 (by rfl) ?_
    refine tv_getI (pc := 33) 0 tb_56 (by rfl) uwD_ (by decide) wm_662 (by rfl) dD_output_33 ?_
    refine tv_if_le (pc := 36) 43 dD_output_36 (by decide) (fun h => absurd h (by rw [tc_up_self]; decide)) (fun _ => ?_)
    refine tv_iconst (v := 0) (pc := 39) dD_output_39 (by decide) ?_
    refine tv_goto (pc := 40) 61 dD_output_40 (by decide) ?_
    exact tv_iret (pc := 61) dD_output_61 rfl (Nat.le_refl _) (Nat.le_refl _) ⟨rfl, rfl⟩
  · skip
    refine tv_iload_n (pc := 16) dD_output_16 (by rfl) ?_
    refine tv_aload_n (pc := 17) dD_output_17 (by rfl) ?_
    refine tv_getI (pc := 18) 24 tb_56 (by rfl) uwD_ (by decide) wm_686 (by rfl) dD_output_18 ?_
    rw [hc]
    refine tv_icmp_lt (pc := 21) 28 dD_output_21 (by decide) (fun h21 => ?_) (fun h21 => ?_)
    · skip
      exact absurd ⟨by assumption, fun z => absurd (by assumption) (ltn.mpr z)⟩ ho
    · skip
      refine tv_iconst (v := 2) (pc := 24) dD_output_24 (by decide) ?_
      refine tv_goto (pc := 25) 29 dD_output_25 (by decide) ?_
      refine tv_putI (ty := .int) (pc := 29) 0 tyD_ tb_56 (by rfl) uwD_ (by decide) wm_662 okD_ nmD_ (by rfl) (by decide +kernel) (by rfl) (by rfl) (by rfl) dD_output_29 ?_
      refine tv_aload_n (pc := 32) dD_output_32 (by rfl) ?_
      refine tv_getI (pc := 33) 0 tb_56 (by rfl) uwD_ (by decide) wm_662 (by rfl) dD_output_33 ?_
      refine tv_if_le (pc := 36) 43 dD_output_36 (by decide) (fun h => absurd h (by rw [tc_up_self]; decide)) (fun _ => ?_)
      refine tv_iconst (v := 0) (pc := 39) dD_output_39 (by decide) ?_
      refine tv_goto (pc := 40) 61 dD_output_40 (by decide) ?_
      exact tv_iret (pc := 61) dD_output_61 rfl (Nat.le_refl _) (Nat.le_refl _) ⟨rfl, rfl⟩
set_option maxRecDepth 100000 in
set_option maxHeartbeats 4000000 in
theorem c_D_output_0 (l : Launch) (G : tc_G) (u : tc_S) (hm : u 56 6 = 1) {j c0 : Nat} (hc : u 56 24 = nI c0) (hj : j < c0) (h200 : c0 ≤ 200) : tc_C tcx G l yD_output wD_output r0D_output 0 0 [.ref (tc_ad G 56), .int (nI j), .int 0] u (tc_Ki (u 75 (2 * j + 0)) (tc_up u 56 0 0)) := by
  refine tw_ofV (own := "TracedCodeModel") [some (.ref (tc_ad G 56)), some (.int (nI j)), some (.int 0)] (by decide +kernel) rfl (Nat.le_of_ble_eq_true rfl) (by rfl) (fun p e s m args below meth c => ?_)
  have i400 : tc_ix (2 * nI j + 0) 400 (2 * j + 0) := by
    have h2 : (2 : Int32) * nI j = nI (2 * j) := by
      rw [show (2 : Int32) = nI 2 from rfl]
      exact (by decide +kernel : ∀ i : Fin 200, nI 2 * nI i.1 = nI (2 * i.1)) ⟨j, by omega⟩
    rw [h2, show (0 : Int32) = nI 0 from rfl, nI_add]
    exact tc_ixN (by omega) (by decide)
  refine tv_aload_n (pc := 0) dD_output_0 (by rfl) ?_
  refine tv_aload_n (pc := 1) dD_output_1 (by rfl) ?_
  refine tv_getI (pc := 2) 6 tb_56 (by rfl) uwD_ (by decide) wm_668 (by rfl) dD_output_2 ?_
  refine tv_if_ne (pc := 5) 12 dD_output_5 (by decide) (fun _ => ?_) (fun h => absurd h (by rw [hm]; decide))
  refine tv_iload_n (pc := 12) dD_output_12 (by rfl) ?_
  refine tv_if_lt (pc := 13) 24 dD_output_13 (by decide) (fun h => absurd h (nI_pos (by omega))) (fun _ => ?_)
  refine tv_iload_n (pc := 16) dD_output_16 (by rfl) ?_
  refine tv_aload_n (pc := 17) dD_output_17 (by rfl) ?_
  refine tv_getI (pc := 18) 24 tb_56 (by rfl) uwD_ (by decide) wm_686 (by rfl) dD_output_18 ?_
  refine tv_icmp_lt (pc := 21) 28 dD_output_21 (by decide) (fun _ => ?_) (fun h => absurd (by rw [hc]; exact nI_lt hj (by omega)) h)
  refine tv_iconst (v := 0) (pc := 28) dD_output_28 (by decide) ?_
  refine tv_putI (ty := .int) (pc := 29) 0 tyD_ tb_56 (by rfl) uwD_ (by decide) wm_662 okD_ nmD_ (by rfl) (by decide +kernel) (by rfl) (by rfl) (by rfl) dD_output_29 ?_
  refine tv_aload_n (pc := 32) dD_output_32 (by rfl) ?_
  refine tv_getI (pc := 33) 0 tb_56 (by rfl) uwD_ (by decide) wm_662 (by rfl) dD_output_33 ?_
  refine tv_if_le (pc := 36) 43 dD_output_36 (by decide) (fun _ => ?_) (fun h => absurd (by rw [tc_up_self]; decide) h)
  refine tv_aload_n (pc := 43) dD_output_43 (by rfl) ?_
  refine tv_getR (pc := 44) 25 tb_56 (by rfl) uwD_ (by decide) wm_687 (by rfl) dD_output_44 ?_
  refine tv_iconst (v := 2) (pc := 47) dD_output_47 (by decide) ?_
  refine tv_iload_n (pc := 48) dD_output_48 (by rfl) ?_
  refine tv_imul (pc := 49) dD_output_49 ?_
  refine tv_iload_n (pc := 50) dD_output_50 (by rfl) ?_
  refine tv_if_eq (pc := 51) 58 dD_output_51 (by decide) (fun _ => ?_) (fun h => absurd (by decide) h)
  refine tv_iconst (v := 0) (pc := 58) dD_output_58 (by decide) ?_
  refine tv_iadd (pc := 59) dD_output_59 ?_
  refine tv_iald (pc := 60) tb_75 (by assumption) dD_output_60 ?_
  exact tv_iret (pc := 61) dD_output_61 rfl (Nat.le_refl _) (Nat.le_refl _) ⟨by rw [tc_up_ne (by decide)], rfl⟩
set_option maxRecDepth 100000 in
set_option maxHeartbeats 4000000 in
theorem c_D_output_1 (l : Launch) (G : tc_G) (u : tc_S) (hm : u 56 6 = 1) {j c0 : Nat} (hc : u 56 24 = nI c0) (hj : j < c0) (h200 : c0 ≤ 200) : tc_C tcx G l yD_output wD_output r0D_output 0 0 [.ref (tc_ad G 56), .int (nI j), .int 1] u (tc_Ki (u 75 (2 * j + 1)) (tc_up u 56 0 0)) := by
  refine tw_ofV (own := "TracedCodeModel") [some (.ref (tc_ad G 56)), some (.int (nI j)), some (.int 1)] (by decide +kernel) rfl (Nat.le_of_ble_eq_true rfl) (by rfl) (fun p e s m args below meth c => ?_)
  have i400 : tc_ix (2 * nI j + 1) 400 (2 * j + 1) := by
    have h2 : (2 : Int32) * nI j = nI (2 * j) := by
      rw [show (2 : Int32) = nI 2 from rfl]
      exact (by decide +kernel : ∀ i : Fin 200, nI 2 * nI i.1 = nI (2 * i.1)) ⟨j, by omega⟩
    rw [h2, show (1 : Int32) = nI 1 from rfl, nI_add]
    exact tc_ixN (by omega) (by decide)
  refine tv_aload_n (pc := 0) dD_output_0 (by rfl) ?_
  refine tv_aload_n (pc := 1) dD_output_1 (by rfl) ?_
  refine tv_getI (pc := 2) 6 tb_56 (by rfl) uwD_ (by decide) wm_668 (by rfl) dD_output_2 ?_
  refine tv_if_ne (pc := 5) 12 dD_output_5 (by decide) (fun _ => ?_) (fun h => absurd h (by rw [hm]; decide))
  refine tv_iload_n (pc := 12) dD_output_12 (by rfl) ?_
  refine tv_if_lt (pc := 13) 24 dD_output_13 (by decide) (fun h => absurd h (nI_pos (by omega))) (fun _ => ?_)
  refine tv_iload_n (pc := 16) dD_output_16 (by rfl) ?_
  refine tv_aload_n (pc := 17) dD_output_17 (by rfl) ?_
  refine tv_getI (pc := 18) 24 tb_56 (by rfl) uwD_ (by decide) wm_686 (by rfl) dD_output_18 ?_
  refine tv_icmp_lt (pc := 21) 28 dD_output_21 (by decide) (fun _ => ?_) (fun h => absurd (by rw [hc]; exact nI_lt hj (by omega)) h)
  refine tv_iconst (v := 0) (pc := 28) dD_output_28 (by decide) ?_
  refine tv_putI (ty := .int) (pc := 29) 0 tyD_ tb_56 (by rfl) uwD_ (by decide) wm_662 okD_ nmD_ (by rfl) (by decide +kernel) (by rfl) (by rfl) (by rfl) dD_output_29 ?_
  refine tv_aload_n (pc := 32) dD_output_32 (by rfl) ?_
  refine tv_getI (pc := 33) 0 tb_56 (by rfl) uwD_ (by decide) wm_662 (by rfl) dD_output_33 ?_
  refine tv_if_le (pc := 36) 43 dD_output_36 (by decide) (fun _ => ?_) (fun h => absurd (by rw [tc_up_self]; decide) h)
  refine tv_aload_n (pc := 43) dD_output_43 (by rfl) ?_
  refine tv_getR (pc := 44) 25 tb_56 (by rfl) uwD_ (by decide) wm_687 (by rfl) dD_output_44 ?_
  refine tv_iconst (v := 2) (pc := 47) dD_output_47 (by decide) ?_
  refine tv_iload_n (pc := 48) dD_output_48 (by rfl) ?_
  refine tv_imul (pc := 49) dD_output_49 ?_
  refine tv_iload_n (pc := 50) dD_output_50 (by rfl) ?_
  refine tv_if_eq (pc := 51) 58 dD_output_51 (by decide) (fun h => absurd h (by decide)) (fun _ => ?_)
  refine tv_iconst (v := 1) (pc := 54) dD_output_54 (by decide) ?_
  refine tv_goto (pc := 55) 59 dD_output_55 (by decide) ?_
  refine tv_iadd (pc := 59) dD_output_59 ?_
  refine tv_iald (pc := 60) tb_75 (by assumption) dD_output_60 ?_
  exact tv_iret (pc := 61) dD_output_61 rfl (Nat.le_refl _) (Nat.le_refl _) ⟨by rw [tc_up_ne (by decide)], rfl⟩
set_option maxRecDepth 100000 in
set_option maxHeartbeats 4000000 in
theorem c_D_valueM (l : Launch) (G : tc_G) (u : tc_S) (hm : u 56 6 = 0) (x : Int32) : tc_C tcx G l yD_value wD_value r0D_value 0 0 [.ref (tc_ad G 56), .int x] u (tc_Ki 0 (tc_up u 56 0 1)) := by
  refine tw_ofV (own := "TracedCodeModel") [some (.ref (tc_ad G 56)), some (.int x)] (by decide +kernel) rfl (Nat.le_of_ble_eq_true rfl) (by rfl) (fun p e s m args below meth c => ?_)
  refine tv_aload_n (pc := 0) dD_value_0 (by rfl) ?_
  refine tv_aload_n (pc := 1) dD_value_1 (by rfl) ?_
  refine tv_getI (pc := 2) 6 tb_56 (by rfl) uwD_ (by decide) wm_668 (by rfl) dD_value_2 ?_
  refine tv_if_ne (pc := 5) 12 dD_value_5 (by decide) (fun h => absurd h (fun z => z hm)) (fun _ => ?_)
  refine tv_iconst (v := 1) (pc := 8) dD_value_8 (by decide) ?_
  refine tv_goto (pc := 9) 39 dD_value_9 (by decide) ?_
  refine tv_putI (ty := .int) (pc := 39) 0 tyD_ tb_56 (by rfl) uwD_ (by decide) wm_662 okD_ nmD_ (by rfl) (by decide +kernel) (by rfl) (by rfl) (by rfl) dD_value_39 ?_
  refine tv_aload_n (pc := 42) dD_value_42 (by rfl) ?_
  refine tv_getI (pc := 43) 0 tb_56 (by rfl) uwD_ (by decide) wm_662 (by rfl) dD_value_43 ?_
  refine tv_if_le (pc := 46) 53 dD_value_46 (by decide) (fun h => absurd h (by rw [tc_up_self]; decide)) (fun _ => ?_)
  refine tv_iconst (v := 0) (pc := 49) dD_value_49 (by decide) ?_
  refine tv_goto (pc := 50) 59 dD_value_50 (by decide) ?_
  exact tv_iret (pc := 59) dD_value_59 rfl (Nat.le_refl _) (Nat.le_refl _) ⟨rfl, rfl⟩
set_option maxRecDepth 100000 in
set_option maxHeartbeats 4000000 in
theorem c_D_value2 (l : Launch) (G : tc_G) (u : tc_S) (hm : u 56 6 = 1) (x : Int32) (ho : ¬ (¬ x < 0 ∧ ¬ 3 ≤ x)) : tc_C tcx G l yD_value wD_value r0D_value 0 0 [.ref (tc_ad G 56), .int x] u (tc_Ki 0 (tc_up u 56 0 2)) := by
  refine tw_ofV (own := "TracedCodeModel") [some (.ref (tc_ad G 56)), some (.int x)] (by decide +kernel) rfl (Nat.le_of_ble_eq_true rfl) (by rfl) (fun p e s m args below meth c => ?_)
  refine tv_aload_n (pc := 0) dD_value_0 (by rfl) ?_
  refine tv_aload_n (pc := 1) dD_value_1 (by rfl) ?_
  refine tv_getI (pc := 2) 6 tb_56 (by rfl) uwD_ (by decide) wm_668 (by rfl) dD_value_2 ?_
  refine tv_if_ne (pc := 5) 12 dD_value_5 (by decide) (fun _ => ?_) (fun h => absurd h (by rw [hm]; decide))
  refine tv_iload_n (pc := 12) dD_value_12 (by rfl) ?_
  refine tv_if_lt (pc := 13) 21 dD_value_13 (by decide) (fun h13 => ?_) (fun h13 => ?_)
  · skip
    refine tv_iconst (v := 2) (pc := 21) dD_value_21 (by decide) ?_
    refine tv_goto (pc := 22) 39 dD_value_22 (by decide) ?_
    refine tv_putI (ty := .int) (pc := 39) 0 tyD_ tb_56 (by rfl) uwD_ (by decide) wm_662 okD_ nmD_ (by rfl) (by decide +kernel) (by rfl) (by rfl) (by rfl) dD_value_39 ?_
    refine tv_aload_n (pc := 42) dD_value_42 (by rfl) ?_
    refine tv_getI (pc := 43) 0 tb_56 (by rfl) uwD_ (by decide) wm_662 (by rfl) dD_value_43 ?_
    refine tv_if_le (pc := 46) 53 dD_value_46 (by decide) (fun h => absurd h (by rw [tc_up_self]; decide)) (fun _ => ?_)
    refine tv_iconst (v := 0) (pc := 49) dD_value_49 (by decide) ?_
    refine tv_goto (pc := 50) 59 dD_value_50 (by decide) ?_
    exact tv_iret (pc := 59) dD_value_59 rfl (Nat.le_refl _) (Nat.le_refl _) ⟨rfl, rfl⟩
  · skip
    refine tv_iload_n (pc := 16) dD_value_16 (by rfl) ?_
    refine tv_iconst (v := 2) (pc := 17) dD_value_17 (by decide) ?_
    refine tv_icmp_le (pc := 18) 25 dD_value_18 (by decide) (fun h18 => ?_) (fun h18 => ?_)
    · skip
      exact absurd ⟨by assumption, fun z => absurd (by assumption) (le2.mpr z)⟩ ho
    · skip
      refine tv_iconst (v := 2) (pc := 21) dD_value_21 (by decide) ?_
      refine tv_goto (pc := 22) 39 dD_value_22 (by decide) ?_
      refine tv_putI (ty := .int) (pc := 39) 0 tyD_ tb_56 (by rfl) uwD_ (by decide) wm_662 okD_ nmD_ (by rfl) (by decide +kernel) (by rfl) (by rfl) (by rfl) dD_value_39 ?_
      refine tv_aload_n (pc := 42) dD_value_42 (by rfl) ?_
      refine tv_getI (pc := 43) 0 tb_56 (by rfl) uwD_ (by decide) wm_662 (by rfl) dD_value_43 ?_
      refine tv_if_le (pc := 46) 53 dD_value_46 (by decide) (fun h => absurd h (by rw [tc_up_self]; decide)) (fun _ => ?_)
      refine tv_iconst (v := 0) (pc := 49) dD_value_49 (by decide) ?_
      refine tv_goto (pc := 50) 59 dD_value_50 (by decide) ?_
      exact tv_iret (pc := 59) dD_value_59 rfl (Nat.le_refl _) (Nat.le_refl _) ⟨rfl, rfl⟩
set_option maxRecDepth 100000 in
set_option maxHeartbeats 4000000 in
theorem c_D_value1 (l : Launch) (G : tc_G) (u : tc_S) (hm : u 56 6 = 1) {x : Nat} (hx : x < 3) (hz : u 74 x = 0) : tc_C tcx G l yD_value wD_value r0D_value 0 0 [.ref (tc_ad G 56), .int (nI x)] u (tc_Ki 0 (tc_up u 56 0 1)) := by
  refine tw_ofV (own := "TracedCodeModel") [some (.ref (tc_ad G 56)), some (.int (nI x))] (by decide +kernel) rfl (Nat.le_of_ble_eq_true rfl) (by rfl) (fun p e s m args below meth c => ?_)
  have i3 : tc_ix (nI x) 3 x := tc_ixN hx (by decide)
  refine tv_aload_n (pc := 0) dD_value_0 (by rfl) ?_
  refine tv_aload_n (pc := 1) dD_value_1 (by rfl) ?_
  refine tv_getI (pc := 2) 6 tb_56 (by rfl) uwD_ (by decide) wm_668 (by rfl) dD_value_2 ?_
  refine tv_if_ne (pc := 5) 12 dD_value_5 (by decide) (fun _ => ?_) (fun h => absurd h (by rw [hm]; decide))
  refine tv_iload_n (pc := 12) dD_value_12 (by rfl) ?_
  refine tv_if_lt (pc := 13) 21 dD_value_13 (by decide) (fun h => absurd h (nI_pos (by omega))) (fun _ => ?_)
  refine tv_iload_n (pc := 16) dD_value_16 (by rfl) ?_
  refine tv_iconst (v := 2) (pc := 17) dD_value_17 (by decide) ?_
  refine tv_icmp_le (pc := 18) 25 dD_value_18 (by decide) (fun _ => ?_) (fun h => absurd (nI_le (b := 2) (by omega) (by decide)) h)
  refine tv_aload_n (pc := 25) dD_value_25 (by rfl) ?_
  refine tv_getR (pc := 26) 23 tb_56 (by rfl) uwD_ (by decide) wm_685 (by rfl) dD_value_26 ?_
  refine tv_iload_n (pc := 29) dD_value_29 (by rfl) ?_
  refine tv_zald (pc := 30) tb_74 (by assumption) dD_value_30 ?_
  refine tv_if_ne (pc := 31) 38 dD_value_31 (by decide) (fun h => absurd h (fun z => z hz)) (fun _ => ?_)
  refine tv_iconst (v := 1) (pc := 34) dD_value_34 (by decide) ?_
  refine tv_goto (pc := 35) 39 dD_value_35 (by decide) ?_
  refine tv_putI (ty := .int) (pc := 39) 0 tyD_ tb_56 (by rfl) uwD_ (by decide) wm_662 okD_ nmD_ (by rfl) (by decide +kernel) (by rfl) (by rfl) (by rfl) dD_value_39 ?_
  refine tv_aload_n (pc := 42) dD_value_42 (by rfl) ?_
  refine tv_getI (pc := 43) 0 tb_56 (by rfl) uwD_ (by decide) wm_662 (by rfl) dD_value_43 ?_
  refine tv_if_le (pc := 46) 53 dD_value_46 (by decide) (fun h => absurd h (by rw [tc_up_self]; decide)) (fun _ => ?_)
  refine tv_iconst (v := 0) (pc := 49) dD_value_49 (by decide) ?_
  refine tv_goto (pc := 50) 59 dD_value_50 (by decide) ?_
  exact tv_iret (pc := 59) dD_value_59 rfl (Nat.le_refl _) (Nat.le_refl _) ⟨rfl, rfl⟩
set_option maxRecDepth 100000 in
set_option maxHeartbeats 4000000 in
theorem c_D_value (l : Launch) (G : tc_G) (u : tc_S) (hm : u 56 6 = 1) {x : Nat} (hx : x < 3) (hz : u 74 x = 1) : tc_C tcx G l yD_value wD_value r0D_value 0 0 [.ref (tc_ad G 56), .int (nI x)] u (tc_Ki (u 73 x) (tc_up u 56 0 0)) := by
  refine tw_ofV (own := "TracedCodeModel") [some (.ref (tc_ad G 56)), some (.int (nI x))] (by decide +kernel) rfl (Nat.le_of_ble_eq_true rfl) (by rfl) (fun p e s m args below meth c => ?_)
  have i3 : tc_ix (nI x) 3 x := tc_ixN hx (by decide)
  refine tv_aload_n (pc := 0) dD_value_0 (by rfl) ?_
  refine tv_aload_n (pc := 1) dD_value_1 (by rfl) ?_
  refine tv_getI (pc := 2) 6 tb_56 (by rfl) uwD_ (by decide) wm_668 (by rfl) dD_value_2 ?_
  refine tv_if_ne (pc := 5) 12 dD_value_5 (by decide) (fun _ => ?_) (fun h => absurd h (by rw [hm]; decide))
  refine tv_iload_n (pc := 12) dD_value_12 (by rfl) ?_
  refine tv_if_lt (pc := 13) 21 dD_value_13 (by decide) (fun h => absurd h (nI_pos (by omega))) (fun _ => ?_)
  refine tv_iload_n (pc := 16) dD_value_16 (by rfl) ?_
  refine tv_iconst (v := 2) (pc := 17) dD_value_17 (by decide) ?_
  refine tv_icmp_le (pc := 18) 25 dD_value_18 (by decide) (fun _ => ?_) (fun h => absurd (nI_le (b := 2) (by omega) (by decide)) h)
  refine tv_aload_n (pc := 25) dD_value_25 (by rfl) ?_
  refine tv_getR (pc := 26) 23 tb_56 (by rfl) uwD_ (by decide) wm_685 (by rfl) dD_value_26 ?_
  refine tv_iload_n (pc := 29) dD_value_29 (by rfl) ?_
  refine tv_zald (pc := 30) tb_74 (by assumption) dD_value_30 ?_
  refine tv_if_ne (pc := 31) 38 dD_value_31 (by decide) (fun _ => ?_) (fun h => absurd h (by rw [hz]; decide))
  refine tv_iconst (v := 0) (pc := 38) dD_value_38 (by decide) ?_
  refine tv_putI (ty := .int) (pc := 39) 0 tyD_ tb_56 (by rfl) uwD_ (by decide) wm_662 okD_ nmD_ (by rfl) (by decide +kernel) (by rfl) (by rfl) (by rfl) dD_value_39 ?_
  refine tv_aload_n (pc := 42) dD_value_42 (by rfl) ?_
  refine tv_getI (pc := 43) 0 tb_56 (by rfl) uwD_ (by decide) wm_662 (by rfl) dD_value_43 ?_
  refine tv_if_le (pc := 46) 53 dD_value_46 (by decide) (fun _ => ?_) (fun h => absurd (by rw [tc_up_self]; decide) h)
  refine tv_aload_n (pc := 53) dD_value_53 (by rfl) ?_
  refine tv_getR (pc := 54) 22 tb_56 (by rfl) uwD_ (by decide) wm_684 (by rfl) dD_value_54 ?_
  refine tv_iload_n (pc := 57) dD_value_57 (by rfl) ?_
  refine tv_iald (pc := 58) tb_73 (by assumption) dD_value_58 ?_
  exact tv_iret (pc := 59) dD_value_59 rfl (Nat.le_refl _) (Nat.le_refl _) ⟨by rw [tc_up_ne (by decide)], rfl⟩
set_option maxRecDepth 100000 in
set_option maxHeartbeats 4000000 in
theorem c_D_readM (l : Launch) (G : tc_G) (u : tc_S) (hm : u 56 6 = 0) (x : Int32) : tc_C tcx G l yD_read wD_read r0D_read 0 0 [.ref (tc_ad G 56), .int x] u (tc_Ki 0 (tc_up u 56 0 1)) := by
  refine tw_ofV (own := "TracedCodeModel") [some (.ref (tc_ad G 56)), some (.int x), none, none] (by decide +kernel) rfl (Nat.le_of_ble_eq_true rfl) (by rfl) (fun p e s m args below meth c => ?_)
  refine tv_aload_n (pc := 0) dD_read_0 (by rfl) ?_
  refine tv_aload_n (pc := 1) dD_read_1 (by rfl) ?_
  refine tv_getI (pc := 2) 6 tb_56 (by rfl) uwD_ (by decide) wm_668 (by rfl) dD_read_2 ?_
  refine tv_if_ne (pc := 5) 12 dD_read_5 (by decide) (fun h => absurd h (fun z => z hm)) (fun _ => ?_)
  refine tv_iconst (v := 1) (pc := 8) dD_read_8 (by decide) ?_
  refine tv_goto (pc := 9) 26 dD_read_9 (by decide) ?_
  refine tv_putI (ty := .int) (pc := 26) 0 tyD_ tb_56 (by rfl) uwD_ (by decide) wm_662 okD_ nmD_ (by rfl) (by decide +kernel) (by rfl) (by rfl) (by rfl) dD_read_26 ?_
  refine tv_aload_n (pc := 29) dD_read_29 (by rfl) ?_
  refine tv_getI (pc := 30) 0 tb_56 (by rfl) uwD_ (by decide) wm_662 (by rfl) dD_read_30 ?_
  refine tv_if_le (pc := 33) 38 dD_read_33 (by decide) (fun h => absurd h (by rw [tc_up_self]; decide)) (fun _ => ?_)
  refine tv_iconst (v := 0) (pc := 36) dD_read_36 (by decide) ?_
  exact tv_iret (pc := 37) dD_read_37 rfl (Nat.le_refl _) (Nat.le_refl _) ⟨rfl, rfl⟩
set_option maxRecDepth 100000 in
set_option maxHeartbeats 4000000 in
theorem c_D_read2 (l : Launch) (G : tc_G) (u : tc_S) (hm : u 56 6 = 1) (x : Int32) (ho : ¬ (¬ x < 0 ∧ ¬ 3 ≤ x)) : tc_C tcx G l yD_read wD_read r0D_read 0 0 [.ref (tc_ad G 56), .int x] u (tc_Ki 0 (tc_up u 56 0 2)) := by
  refine tw_ofV (own := "TracedCodeModel") [some (.ref (tc_ad G 56)), some (.int x), none, none] (by decide +kernel) rfl (Nat.le_of_ble_eq_true rfl) (by rfl) (fun p e s m args below meth c => ?_)
  refine tv_aload_n (pc := 0) dD_read_0 (by rfl) ?_
  refine tv_aload_n (pc := 1) dD_read_1 (by rfl) ?_
  refine tv_getI (pc := 2) 6 tb_56 (by rfl) uwD_ (by decide) wm_668 (by rfl) dD_read_2 ?_
  refine tv_if_ne (pc := 5) 12 dD_read_5 (by decide) (fun _ => ?_) (fun h => absurd h (by rw [hm]; decide))
  refine tv_iload_n (pc := 12) dD_read_12 (by rfl) ?_
  refine tv_if_lt (pc := 13) 21 dD_read_13 (by decide) (fun h13 => ?_) (fun h13 => ?_)
  · skip
    refine tv_iconst (v := 2) (pc := 21) dD_read_21 (by decide) ?_
    refine tv_goto (pc := 22) 26 dD_read_22 (by decide) ?_
    refine tv_putI (ty := .int) (pc := 26) 0 tyD_ tb_56 (by rfl) uwD_ (by decide) wm_662 okD_ nmD_ (by rfl) (by decide +kernel) (by rfl) (by rfl) (by rfl) dD_read_26 ?_
    refine tv_aload_n (pc := 29) dD_read_29 (by rfl) ?_
    refine tv_getI (pc := 30) 0 tb_56 (by rfl) uwD_ (by decide) wm_662 (by rfl) dD_read_30 ?_
    refine tv_if_le (pc := 33) 38 dD_read_33 (by decide) (fun h => absurd h (by rw [tc_up_self]; decide)) (fun _ => ?_)
    refine tv_iconst (v := 0) (pc := 36) dD_read_36 (by decide) ?_
    exact tv_iret (pc := 37) dD_read_37 rfl (Nat.le_refl _) (Nat.le_refl _) ⟨rfl, rfl⟩
  · skip
    refine tv_iload_n (pc := 16) dD_read_16 (by rfl) ?_
    refine tv_iconst (v := 2) (pc := 17) dD_read_17 (by decide) ?_
    refine tv_icmp_le (pc := 18) 25 dD_read_18 (by decide) (fun h18 => ?_) (fun h18 => ?_)
    · skip
      exact absurd ⟨by assumption, fun z => absurd (by assumption) (le2.mpr z)⟩ ho
    · skip
      refine tv_iconst (v := 2) (pc := 21) dD_read_21 (by decide) ?_
      refine tv_goto (pc := 22) 26 dD_read_22 (by decide) ?_
      refine tv_putI (ty := .int) (pc := 26) 0 tyD_ tb_56 (by rfl) uwD_ (by decide) wm_662 okD_ nmD_ (by rfl) (by decide +kernel) (by rfl) (by rfl) (by rfl) dD_read_26 ?_
      refine tv_aload_n (pc := 29) dD_read_29 (by rfl) ?_
      refine tv_getI (pc := 30) 0 tb_56 (by rfl) uwD_ (by decide) wm_662 (by rfl) dD_read_30 ?_
      refine tv_if_le (pc := 33) 38 dD_read_33 (by decide) (fun h => absurd h (by rw [tc_up_self]; decide)) (fun _ => ?_)
      refine tv_iconst (v := 0) (pc := 36) dD_read_36 (by decide) ?_
      exact tv_iret (pc := 37) dD_read_37 rfl (Nat.le_refl _) (Nat.le_refl _) ⟨rfl, rfl⟩
set_option maxRecDepth 100000 in
set_option maxHeartbeats 4000000 in
theorem c_D_read (l : Launch) (G : tc_G) (u : tc_S) (hm : u 56 6 = 1) {n q x : Nat} (hs : u 56 1 = nI n) (hn : n ≤ 16) (hq : q ≤ n) (hx : x < 3) (hR : fc_R n (pm u 0) (pm u 16) (u 68) (u 69)) (hre : ∀ i, i ≤ n → u 65 i = 1) (hat : u 56 19 = nI q) : tc_C tcx G l yD_read wD_read r0D_read 0 0 [.ref (tc_ad G 56), .int (nI x)] u (tc_KI (fun r0 v => (∀ c, c ≠ 56 → v c = u c) ∧ (∀ j, j ≠ 0 → j ≠ 26 → v 56 j = u 56 j) ∧ ((tp_pl n (pm u 0) (pm u 16) q (6 + x) (-1) ∧ v 56 0 = 3) ∨ (∃ a, a < 6 ∧ tp_pl n (pm u 0) (pm u 16) q (6 + x) (nI a) ∧ v 56 0 = 0 ∧ r0 = u 72 (6 + a)) ∨ (tp_pl n (pm u 0) (pm u 16) q (6 + x) 6 ∧ v 56 0 = 0 ∧ tp_v n (pm u 0) q (6 + x) r0)))) := by
  refine tw_ofV (own := "TracedCodeModel") [some (.ref (tc_ad G 56)), some (.int (nI x)), none, none] (by decide +kernel) rfl (Nat.le_of_ble_eq_true rfl) (by rfl) (fun p e s m args below meth c => ?_)
  have q16 : ∀ o, pm (tc_up u 56 0 0) o = pm u o := fun o => by
    funext j i; unfold pm
    by_cases hj : j < 4
    · rw [if_pos hj, if_pos hj, tc_up_ne (by omega)]
    · rw [if_neg hj, if_neg hj]
  have pl := c_D_placeOf l G (tc_up u 56 0 0) (n := n) (q := q) (x := x) (by rw [tc_up_at (by decide)]; exact hs) hn hq hx (by rw [q16, q16, tc_up_ne (by decide), tc_up_ne (by decide)]; exact hR) (by rw [tc_up_ne (by decide)]; exact hre)
  rw [q16, q16] at pl
  have fin : ∀ (w : tc_S), ic_F (tc_up u 56 0 0) w → (∀ c, c ≠ 56 → w c = u c) ∧ (∀ j, j ≠ 0 → j ≠ 26 → w 56 j = u 56 j) ∧ w 56 0 = 0 := fun w hw => ⟨fun c hc => (hw.1 c hc).trans (tc_up_ne hc), fun j h0 h26 => (hw.2 j h26).trans (tc_up_at h0), (hw.2 0 (by decide)).trans tc_up_self⟩
  refine tv_aload_n (pc := 0) dD_read_0 (by rfl) ?_
  refine tv_aload_n (pc := 1) dD_read_1 (by rfl) ?_
  refine tv_getI (pc := 2) 6 tb_56 (by rfl) uwD_ (by decide) wm_668 (by rfl) dD_read_2 ?_
  refine tv_if_ne (pc := 5) 12 dD_read_5 (by decide) (fun _ => ?_) (fun h => absurd h (by rw [hm]; decide))
  refine tv_iload_n (pc := 12) dD_read_12 (by rfl) ?_
  refine tv_if_lt (pc := 13) 21 dD_read_13 (by decide) (fun h => absurd h (nI_pos (by omega))) (fun _ => ?_)
  refine tv_iload_n (pc := 16) dD_read_16 (by rfl) ?_
  refine tv_iconst (v := 2) (pc := 17) dD_read_17 (by decide) ?_
  refine tv_icmp_le (pc := 18) 25 dD_read_18 (by decide) (fun _ => ?_) (fun h => absurd (nI_le (b := 2) (by omega) (by decide)) h)
  refine tv_iconst (v := 0) (pc := 25) dD_read_25 (by decide) ?_
  refine tv_putI (ty := .int) (pc := 26) 0 tyD_ tb_56 (by rfl) uwD_ (by decide) wm_662 okD_ nmD_ (by rfl) (by decide +kernel) (by rfl) (by rfl) (by rfl) dD_read_26 ?_
  refine tv_aload_n (pc := 29) dD_read_29 (by rfl) ?_
  refine tv_getI (pc := 30) 0 tb_56 (by rfl) uwD_ (by decide) wm_662 (by rfl) dD_read_30 ?_
  refine tv_if_le (pc := 33) 38 dD_read_33 (by decide) (fun _ => ?_) (fun h => absurd (by rw [tc_up_self]; decide) h)
  refine tv_aload_n (pc := 38) dD_read_38 (by rfl) ?_
  refine tv_aload_n (pc := 39) dD_read_39 (by rfl) ?_
  refine tv_getI (pc := 40) 19 tb_56 (by rfl) uwD_ (by decide) wm_681 (by rfl) dD_read_40 ?_
  rw [tc_up_at (by decide), hat]
  refine tv_iload_n (pc := 43) dD_read_43 (by rfl) ?_
  refine tv_callVI (pc := 44) [_, _] tb_56 (by rfl) pl (kVD_placeOf wm_865 ⟨by decide, by decide⟩) (by rfl) (Nat.le_of_ble_eq_true rfl) dD_read_44 ⟨by decide, by decide⟩ (fun r0 w hw => ?_)
  refine tv_istore2 (pc := 47) dD_read_47 (by rfl) ?_
  obtain ⟨hpl, hwF⟩ := hw
  obtain ⟨f1, f2, f3⟩ := fin w hwF
  have rr : r0 = -1 ∨ r0 = 6 ∨ ∃ a, a < 6 ∧ r0 = nI a := by
    rcases hpl with ⟨a, ha, e, -⟩ | ⟨-, ⟨-, e⟩ | ⟨-, e⟩⟩
    · exact Or.inr (Or.inr ⟨a, ha, e⟩)
    · exact Or.inr (Or.inl e)
    · exact Or.inl e
  refine tv_iload_n (pc := 48) dD_read_48 (by rfl) ?_
  refine tv_iconst (v := (-1)) (pc := 49) dD_read_49 (by decide) ?_
  refine tv_icmp_ne (pc := 50) 60 dD_read_50 (by decide) (fun h50 => ?_) (fun h50 => ?_)
  · skip
    refine tv_iload_n (pc := 60) dD_read_60 (by rfl) ?_
    refine tv_bipush (v := 6) (pc := 61) dD_read_61 (by decide) ?_
    refine tv_icmp_ge (pc := 63) 76 dD_read_63 (by decide) (fun h63 => ?_) (fun h63 => ?_)
    · skip
      have e6 : r0 = 6 := by
        rcases rr with e | e | ⟨a, ha, e⟩
        · exact absurd e (by assumption)
        · exact e
        · have h6 : 6 ≤ r0 := (by assumption)
          rw [e] at h6; exact absurd h6 (nI_lt6 ha)
      have hX : tc_ix (9 * nI q + 6 + nI x) 153 (9 * q + (6 + x)) := by
        have h9 : (9 : Int32) * nI q = nI (9 * q) := by
          rw [show (9 : Int32) = nI 9 from rfl]
          exact (by decide +kernel : ∀ i : Fin 17, nI 9 * nI i.1 = nI (9 * i.1)) ⟨q, by omega⟩
        rw [h9, show (6 : Int32) = nI 6 from rfl, nI_add, nI_add, show 9 * q + 6 + x = 9 * q + (6 + x) by omega]
        exact tc_ixN (by omega) (by decide)
      have pw : ∀ o, pm w o = pm u o := fun o => by
        funext j i; unfold pm
        by_cases hj : j < 4
        · rw [if_pos hj, if_pos hj, f1 _ (by omega)]
        · rw [if_neg hj, if_neg hj]
      have ic := c_D_isConstant l G w (n := n) (by rw [f2 1 (by decide) (by decide)]; exact hs) hn hq (x := 6 + x) (by omega) (by rw [pw, pw, f1 68 (by decide), f1 69 (by decide)]; exact hR) hX
      rw [pw] at ic
      refine tv_aload_n (pc := 76) dD_read_76 (by rfl) ?_
      refine tv_bipush (v := 9) (pc := 77) dD_read_77 (by decide) ?_
      refine tv_aload_n (pc := 79) dD_read_79 (by rfl) ?_
      refine tv_getI (pc := 80) 19 tb_56 (by rfl) uwD_ (by decide) wm_681 (by rfl) dD_read_80 ?_
      rw [f2 19 (by decide) (by decide), hat]
      refine tv_imul (pc := 83) dD_read_83 ?_
      refine tv_bipush (v := 6) (pc := 84) dD_read_84 (by decide) ?_
      refine tv_iadd (pc := 86) dD_read_86 ?_
      refine tv_iload_n (pc := 87) dD_read_87 (by rfl) ?_
      refine tv_iadd (pc := 88) dD_read_88 ?_
      refine tv_callVI (pc := 89) [_] tb_56 (by rfl) ic (kVD_isConstant wm_869 ⟨by decide, by decide⟩) (by rfl) (Nat.le_of_ble_eq_true rfl) dD_read_89 ⟨by decide, by decide⟩ (fun r1 w2 hw2 => ?_)
      refine tv_istore3 (pc := 92) dD_read_92 (by rfl) ?_
      refine tv_aload_n (pc := 93) dD_read_93 (by rfl) ?_
      refine tv_getI (pc := 94) 26 tb_56 (by rfl) uwD_ (by decide) wm_688 (by rfl) dD_read_94 ?_
      exact tv_iret (pc := 97) dD_read_97 rfl (Nat.le_refl _) (Nat.le_refl _) (by
      obtain ⟨er2, hF2, hc2⟩ := hw2
      have hv : ∃ c, tp_v n (pm u 0) q (6 + x) c := by
        rw [e6] at hpl
        rcases hpl with ⟨a, ha, e, -⟩ | ⟨-, ⟨h, -⟩ | ⟨-, e⟩⟩
        · exact absurd ((nI_eq (a := 6) (by decide) (by omega)).mp e) (by omega)
        · exact h
        · exact absurd e (by decide)
      obtain ⟨c9, hc9⟩ := hv
      refine ⟨_, rfl, fun c hc => by rw [hF2.1 c hc]; exact f1 c hc, fun j h0 h26 => by rw [hF2.2 j h26]; exact f2 j h0 h26, Or.inr (Or.inr ⟨by rw [e6] at hpl; exact hpl, by rw [hF2.2 0 (by decide)]; exact f3, ?_⟩)⟩
      rw [hc2 c9 hc9]; exact hc9)
    · skip
      obtain ⟨a, ha, ea⟩ : ∃ a, a < 6 ∧ r0 = nI a := by
        rcases rr with e | e | e
        · exact absurd e (by assumption)
        · have h6 : ¬ 6 ≤ r0 := (by assumption)
          rw [e] at h6; exact absurd (Int32.le_refl 6) h6
        · exact e
      have j12 : tc_ix (6 + r0) 12 (6 + a) := by rw [ea, show (6 : Int32) = nI 6 from rfl, nI_add]; exact tc_ixN (by omega) (by decide)
      refine tv_aload_n (pc := 66) dD_read_66 (by rfl) ?_
      refine tv_getR (pc := 67) 21 tb_56 (by rfl) uwD_ (by decide) wm_683 (by rfl) dD_read_67 ?_
      refine tv_bipush (v := 6) (pc := 70) dD_read_70 (by decide) ?_
      refine tv_iload_n (pc := 72) dD_read_72 (by rfl) ?_
      refine tv_iadd (pc := 73) dD_read_73 ?_
      refine tv_iald (pc := 74) tb_72 (by assumption) dD_read_74 ?_
      exact tv_iret (pc := 75) dD_read_75 rfl (Nat.le_refl _) (Nat.le_refl _) ⟨_, rfl, f1, f2, Or.inr (Or.inl ⟨a, ha, by rw [ea] at hpl; exact hpl, f3, by rw [f1 72 (by decide)]⟩)⟩
  · skip
    refine tv_aload_n (pc := 53) dD_read_53 (by rfl) ?_
    refine tv_iconst (v := 3) (pc := 54) dD_read_54 (by decide) ?_
    refine tv_putI (ty := .int) (pc := 55) 0 tyD_ tb_56 (by rfl) uwD_ (by decide) wm_662 okD_ nmD_ (by rfl) (by decide +kernel) (by rfl) (by rfl) (by rfl) dD_read_55 ?_
    refine tv_iconst (v := 0) (pc := 58) dD_read_58 (by decide) ?_
    exact tv_iret (pc := 59) dD_read_59 rfl (Nat.le_refl _) (Nat.le_refl _) (by
      have er : r0 = -1 := (by assumption)
      refine ⟨_, rfl, fun c hc => by rw [tc_up_ne hc]; exact f1 c hc, fun j h0 h26 => by rw [tc_up_at h0]; exact f2 j h0 h26, Or.inl ⟨by rw [er] at hpl; exact hpl, tc_up_self⟩⟩)
