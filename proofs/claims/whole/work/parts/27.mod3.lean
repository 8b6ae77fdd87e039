/-! is a register live behind a line -/
def lv_st (n : Nat) (P : tp_P) (i x : Nat) : Prop := x = i + 1 ∨ x = tp_tg n P i
def lv_suc (n : Nat) (P P1 : tp_P) (r x y : Nat) : Prop := x < n ∧ tp_w P1 x ≠ some r ∧ (y = x + 1 ∨ y = tp_tg n P x)
def lv_ok (n : Nat) (P1 : tp_P) (r x : Nat) : Prop := x < n → ¬ sd_us P1 x r
def lv_L (n : Nat) (P1 : tp_P) (i r : Nat) : Prop := ∃ q, tp_nx n P1 i q ∧ tp_l n P1 q r
theorem lv_true {n : Nat} {P P1 : tp_P} {i r x : Nat} (hi : i < n) (ht : ∀ i, i < n → tp_tg n P1 i = tp_tg n P i) (h : df_R (lv_st n P i) (lv_suc n P P1 r) x) (hx : x < n) (hu : sd_us P1 x r) : lv_L n P1 i r := by
  refine h (fun x => tp_l n P1 x r → lv_L n P1 i r) (fun x hx hl => ⟨x, ?_, hl⟩) (fun x y h1 h2 hy => h1 fun S hS => ?_) (fun S hS => hS x r hx (Or.inl ?_))
  · rcases hx with e | e
    · exact Or.inl e
    · exact Or.inr (by rw [ht i hi]; exact e)
  · refine hS x r h2.1 (Or.inr ⟨h2.2.1, y, ?_, hy S hS⟩)
    rcases h2.2.2 with e | e
    · exact Or.inl e
    · exact Or.inr (by rw [ht x h2.1]; exact e)
  · obtain ⟨j, h1, h2, h3, h4⟩ := hu
    exact ⟨j, h1, h2, h3, h4⟩
theorem lv_false {n : Nat} {P P1 : tp_P} {i r : Nat} {v : tc_S} (hn : n ≤ 16) (hi : i < n) (ht : ∀ i, i < n → tp_tg n P1 i = tp_tg n P i) (h : df_I (lv_st n P i) (lv_suc n P P1 r) (lv_ok n P1 r) 0 v) : ¬ lv_L n P1 i r := by
  rintro ⟨q, hq, hl⟩
  have key : tp_lc n P1 (fun q r' => r' = r → q ≤ n → ¬ v 66 q = 1) := by
    intro x r' hx hc e hxn hm
    subst e
    obtain ⟨ho, hcl⟩ := df_ok h (by omega) hm
    rcases hc with ⟨j, h1, h2, h3, h4⟩ | ⟨hw, y, hy, hS⟩
    · exact ho hx ⟨j, h1, h2, h3, h4⟩
    · have hy' : y = x + 1 ∨ y = tp_tg n P x := by
        rcases hy with e | e
        · exact Or.inl e
        · exact Or.inr (by rw [← ht x hx]; exact e)
      refine hS rfl ?_ (hcl y ⟨hx, hw, hy'⟩)
      rcases hy' with e | e
      · omega
      · rw [e]; exact tp_tg_le hx
  have hq' : lv_st n P i q := by
    rcases hq with e | e
    · exact Or.inl e
    · exact Or.inr (by rw [← ht i hi]; exact e)
  refine hl _ key rfl ?_ (h.2 q hq')
  rcases hq' with e | e
  · omega
  · rw [e]; exact tp_tg_le hi
set_option maxRecDepth 100000 in
set_option maxHeartbeats 4000000 in
theorem c_D_isLive (l : Launch) (G : tc_G) (u : tc_S) {n i r : Nat} (hs : u 56 1 = nI n) (hn : n ≤ 16) (hi : i < n) (hr : r < 6) (hP : ∀ i, i < n → tp_line (pm u 0) i) (hP1 : ∀ i, i < n → tp_line (pm u 16) i) (ht : ∀ i, i < n → tp_tg n (pm u 16) i = tp_tg n (pm u 0) i) : tc_C tcx G l yD_isLive wD_isLive r0D_isLive 0 0 [.ref (tc_ad G 56), .int (nI i), .int (nI r)] u (tc_KI (fun r0 v => r0 = tp_b (lv_L n (pm u 16) i r) ∧ df_F u v)) := by
  refine tw_ofV (own := "TracedCodeModel") [some (.ref (tc_ad G 56)), some (.int (nI i)), some (.int (nI r)), none] (by decide +kernel) rfl (Nat.le_of_ble_eq_true rfl) (by rfl) (fun p e s m args below meth c => ?_)
  have loop : ∀ (M k : Nat) (v : tc_S) (lx : Option Value), df_F u v → df_I (lv_st n (pm u 0) i) (lv_suc n (pm u 0) (pm u 16) r) (lv_ok n (pm u 16) r) k v → 2 * df_Z v 34 + k < M → tc_V tcx G p l e r0D_isLive s m args below meth c bD_isLive 4 tw "TracedCodeModel" (some .boolean) [] (MQ below (tc_Qc tcx G (tc_KI (fun r0 v => r0 = tp_b (lv_L n (pm u 16) i r) ∧ df_F u v)) s.heap.size) args s 0 0 (tc_A tcx G s.heap.size)) 0 0 v 20 [some (.ref (tc_ad G 56)), some (.int (nI i)), some (.int (nI r)), lx] [] := by
    intro M
    induction M with
    | zero => intro k v lx _ _ h; omega
    | succ M ih =>
      intro k v lx hF hI hM
      have hk : v 56 14 = nI k := hI.1.1
      have hv1 : v 56 1 = nI n := by rw [hF.2 1 (by decide)]; exact hs
      cases k with
      | zero =>
        refine tv_aload_n (pc := 20) dD_isLive_20 (by rfl) ?_
        refine tv_getI (pc := 21) 14 tb_56 (by rfl) uwD_ (by decide) wm_676 (by rfl) dD_isLive_21 ?_
        refine tv_if_le (pc := 24) 94 dD_isLive_24 (by decide) (fun _ => ?_) (fun h => absurd (by rw [hk]; decide) h)
        refine tv_iconst (v := 0) (pc := 94) dD_isLive_94 (by decide) ?_
        exact tv_zret (pc := 95) dD_isLive_95 rfl (Nat.le_refl _) (Nat.le_refl _) (by rfl) ⟨_, rfl, (tp_b_f (lv_false hn hi ht hI)).symm, hF⟩
      | succ k =>
        obtain ⟨x, hx, ew, em, er, hJ, hk34, hz⟩ := df_pop hI
        have ik : tc_ix (nI k) 34 k := tc_ixN hk34 (by decide)
        have e67 : (tc_up v 56 14 (nI k)) 67 k = nI x := by rw [tc_up_ne (by decide)]; exact ew
        have el : (tc_up v 56 14 (nI k)) 56 1 = nI n := by rw [tc_up_at (by decide)]; exact hv1
        have hF1 : df_F u (tc_up v 56 14 (nI k)) := hF.tr df_F_left
        have hst1 : ∀ y, (lv_st n (pm u 0) i) y → (tc_up v 56 14 (nI k)) 66 y = 1 := fun y hy => by rw [tc_up_ne (by decide)]; exact hI.2 y hy
        by_cases hxn : x < n
        · have hx16 : x < 16 := by omega
          have hl := hP x hxn
          have tle := tp_tg_le (P := pm u 0) hxn
          have us := c_D_uses l G (tc_up v 56 14 (nI k)) hx16 hr (by rw [df_pm hF1]; exact hP1 x hxn)
          have ws := c_D_writes l G (tc_up v 56 14 (nI k)) hx16 hr (by rw [df_pm hF1]; exact hP1 x hxn)
          rw [df_pm hF1] at us ws
          have t1 := c_D_targetOf l G (sd_meet (x + 1) k (tc_up v 56 14 (nI k))) (n := n) (i := x) (by rw [df_F_meet.2 1 (by decide)]; exact el) hn hx16 (by rw [df_pm df_F_meet, df_pm hF1]; exact hl.2.2.2.1)
          rw [df_pm df_F_meet, df_pm hF1] at t1
          refine tv_aload_n (pc := 20) dD_isLive_20 (by rfl) ?_
          refine tv_getI (pc := 21) 14 tb_56 (by rfl) uwD_ (by decide) wm_676 (by rfl) dD_isLive_21 ?_
          refine tv_if_le (pc := 24) 94 dD_isLive_24 (by decide) (fun h => absurd h (by rw [hk]; exact nI_nle (by omega) (by omega))) (fun _ => ?_)
          refine tv_aload_n (pc := 27) dD_isLive_27 (by rfl) ?_
          refine tv_dup (pc := 28) dD_isLive_28 (by rfl) ?_
          refine tv_getI (pc := 29) 14 tb_56 (by rfl) uwD_ (by decide) wm_676 (by rfl) dD_isLive_29 ?_
          rw [hk]
          refine tv_iconst (v := 1) (pc := 32) dD_isLive_32 (by decide) ?_
          refine tv_isub (pc := 33) dD_isLive_33 ?_
          rw [nI_pred]
          refine tv_putI (ty := .int) (pc := 34) 14 tyD_ tb_56 (by rfl) uwD_ (by decide) wm_676 okD_ nmD_ (by rfl) (by decide +kernel) (by rfl) (by rfl) (by rfl) dD_isLive_34 ?_
          refine tv_aload_n (pc := 37) dD_isLive_37 (by rfl) ?_
          refine tv_getR (pc := 38) 13 tb_56 (by rfl) uwD_ (by decide) wm_675 (by rfl) dD_isLive_38 ?_
          refine tv_aload_n (pc := 41) dD_isLive_41 (by rfl) ?_
          refine tv_getI (pc := 42) 14 tb_56 (by rfl) uwD_ (by decide) wm_676 (by rfl) dD_isLive_42 ?_
          rw [tc_up_self]
          refine tv_iald (pc := 45) tb_67 (by assumption) dD_isLive_45 ?_
          rw [e67]
          refine tv_istore3 (pc := 46) dD_isLive_46 (by rfl) ?_
          refine tv_iload_n (pc := 47) dD_isLive_47 (by rfl) ?_
          refine tv_aload_n (pc := 48) dD_isLive_48 (by rfl) ?_
          refine tv_getI (pc := 49) 1 tb_56 (by rfl) uwD_ (by decide) wm_663 (by rfl) dD_isLive_49 ?_
          refine tv_icmp_ge (pc := 52) 91 dD_isLive_52 (by decide) (fun h => absurd h (by rw [el]; exact nI_ge hxn (by omega))) (fun _ => ?_)
          refine tv_aload_n (pc := 55) dD_isLive_55 (by rfl) ?_
          refine tv_iload_n (pc := 56) dD_isLive_56 (by rfl) ?_
          refine tv_iload_n (pc := 57) dD_isLive_57 (by rfl) ?_
          refine tv_callVi (pc := 58) [_, _] tb_56 (by rfl) us (kVD_uses wm_831 ⟨by decide, by decide⟩) (by rfl) (Nat.le_of_ble_eq_true rfl) dD_isLive_58 ⟨by decide, by decide⟩ ?_
          refine tv_if_eq (pc := 61) 66 dD_isLive_61 (by decide) (fun h61 => ?_) (fun h61 => ?_)
          · skip
            refine tv_aload_n (pc := 66) dD_isLive_66 (by rfl) ?_
            refine tv_iload_n (pc := 67) dD_isLive_67 (by rfl) ?_
            refine tv_iload_n (pc := 68) dD_isLive_68 (by rfl) ?_
            refine tv_callVi (pc := 69) [_, _] tb_56 (by rfl) ws (kVD_writes wm_811 ⟨by decide, by decide⟩) (by rfl) (Nat.le_of_ble_eq_true rfl) dD_isLive_69 ⟨by decide, by decide⟩ ?_
            refine tv_if_ne (pc := 72) 91 dD_isLive_72 (by decide) (fun h72 => ?_) (fun h72 => ?_)
            · skip
              refine tv_goto (pc := 91) 20 dD_isLive_91 (by decide) ?_
              first
              | (have hw : tp_w (pm u 16) x = some r := tp_b_p (by assumption)
                 exact ih k _ _ hF1 (df_close hJ (fun _ => tp_b_q h61) (fun y hy => absurd hw hy.2.1) hst1) (by omega))
              | exact ih k2 _ _ (hF1.tr a5) a4 (by omega)
            · skip
              have hw : ¬ tp_w (pm u 16) x = some r := tp_b_q (by assumption)
              obtain ⟨k1, k2, a1, a2, a3, a4, a5, a6⟩ := df_two (a := x + 1) (b := tp_tg n (pm u 0) x) hJ (by omega) (by omega) (df_R_suc er ⟨hxn, hw, Or.inl rfl⟩) (df_R_suc er ⟨hxn, hw, Or.inr rfl⟩) (fun _ => tp_b_q h61) (fun y hy => hy.2.2) (fun y hy => Or.inl (hst1 y hy))
              refine tv_aload_n (pc := 75) dD_isLive_75 (by rfl) ?_
              refine tv_iload_n (pc := 76) dD_isLive_76 (by rfl) ?_
              refine tv_iconst (v := 1) (pc := 77) dD_isLive_77 (by decide) ?_
              refine tv_iadd (pc := 78) dD_isLive_78 ?_
              rw [nI_1]
              refine tv_callVv (pc := 79) [_] tb_56 (by rfl) (c_D_meet l G _ (x := x + 1) (k := k) (by omega) tc_up_self a2) (kVD_meet wm_795 ⟨by decide, by decide⟩) (by rfl) (Nat.le_of_ble_eq_true rfl) dD_isLive_79 ⟨by decide, by decide⟩ ?_
              refine tv_aload_n (pc := 82) dD_isLive_82 (by rfl) ?_
              refine tv_aload_n (pc := 83) dD_isLive_83 (by rfl) ?_
              refine tv_iload_n (pc := 84) dD_isLive_84 (by rfl) ?_
              refine tv_callVi (pc := 85) [_] tb_56 (by rfl) t1 (kVD_targetOf wm_799 ⟨by decide, by decide⟩) (by rfl) (Nat.le_of_ble_eq_true rfl) dD_isLive_85 ⟨by decide, by decide⟩ ?_
              refine tv_callVv (pc := 88) [_] tb_56 (by rfl) (c_D_meet l G _ (x := tp_tg n (pm u 0) x) (k := k1) (by omega) a1 a3) (kVD_meet wm_795 ⟨by decide, by decide⟩) (by rfl) (Nat.le_of_ble_eq_true rfl) dD_isLive_88 ⟨by decide, by decide⟩ ?_
              refine tv_goto (pc := 91) 20 dD_isLive_91 (by decide) ?_
              first
              | (have hw : tp_w (pm u 16) x = some r := tp_b_p (by assumption)
                 exact ih k _ _ hF1 (df_close hJ (fun _ => tp_b_q h61) (fun y hy => absurd hw hy.2.1) hst1) (by omega))
              | exact ih k2 _ _ (hF1.tr a5) a4 (by omega)
          · skip
            refine tv_iconst (v := 1) (pc := 64) dD_isLive_64 (by decide) ?_
            exact tv_zret (pc := 65) dD_isLive_65 rfl (Nat.le_refl _) (Nat.le_refl _) (by rfl) ⟨_, rfl, (tp_b_t (lv_true hi ht er hxn (tp_b_p h61))).symm, hF1⟩
        · have hI2 := df_close hJ (fun q => absurd q hxn) (fun y hy => absurd hy.1 hxn) hst1
          refine tv_aload_n (pc := 20) dD_isLive_20 (by rfl) ?_
          refine tv_getI (pc := 21) 14 tb_56 (by rfl) uwD_ (by decide) wm_676 (by rfl) dD_isLive_21 ?_
          refine tv_if_le (pc := 24) 94 dD_isLive_24 (by decide) (fun h => absurd h (by rw [hk]; exact nI_nle (by omega) (by omega))) (fun _ => ?_)
          refine tv_aload_n (pc := 27) dD_isLive_27 (by rfl) ?_
          refine tv_dup (pc := 28) dD_isLive_28 (by rfl) ?_
          refine tv_getI (pc := 29) 14 tb_56 (by rfl) uwD_ (by decide) wm_676 (by rfl) dD_isLive_29 ?_
          rw [hk]
          refine tv_iconst (v := 1) (pc := 32) dD_isLive_32 (by decide) ?_
          refine tv_isub (pc := 33) dD_isLive_33 ?_
          rw [nI_pred]
          refine tv_putI (ty := .int) (pc := 34) 14 tyD_ tb_56 (by rfl) uwD_ (by decide) wm_676 okD_ nmD_ (by rfl) (by decide +kernel) (by rfl) (by rfl) (by rfl) dD_isLive_34 ?_
          refine tv_aload_n (pc := 37) dD_isLive_37 (by rfl) ?_
          refine tv_getR (pc := 38) 13 tb_56 (by rfl) uwD_ (by decide) wm_675 (by rfl) dD_isLive_38 ?_
          refine tv_aload_n (pc := 41) dD_isLive_41 (by rfl) ?_
          refine tv_getI (pc := 42) 14 tb_56 (by rfl) uwD_ (by decide) wm_676 (by rfl) dD_isLive_42 ?_
          rw [tc_up_self]
          refine tv_iald (pc := 45) tb_67 (by assumption) dD_isLive_45 ?_
          rw [e67]
          refine tv_istore3 (pc := 46) dD_isLive_46 (by rfl) ?_
          refine tv_iload_n (pc := 47) dD_isLive_47 (by rfl) ?_
          refine tv_aload_n (pc := 48) dD_isLive_48 (by rfl) ?_
          refine tv_getI (pc := 49) 1 tb_56 (by rfl) uwD_ (by decide) wm_663 (by rfl) dD_isLive_49 ?_
          refine tv_icmp_ge (pc := 52) 91 dD_isLive_52 (by decide) (fun _ => ?_) (fun h => absurd (by rw [el]; exact nI_le (by omega) (by omega)) h)
          refine tv_goto (pc := 91) 20 dD_isLive_91 (by decide) ?_
          exact ih k _ _ hF1 hI2 (by omega)
  have tle := tp_tg_le (P := pm u 0) hi
  have hJ0 := df_start (st := (lv_st n (pm u 0) i)) (suc := (lv_suc n (pm u 0) (pm u 16) r)) (ok := (lv_ok n (pm u 16) r)) (u := u)
  have w0 : tc_up (tc_row u 66 (fun _ => 0) 34) 56 14 0 56 14 = nI 0 := tc_up_self
  obtain ⟨k1, k2, a1, a2, a3, a4, a5, a6⟩ := df_two (a := i + 1) (b := tp_tg n (pm u 0) i) (x := 34) hJ0 (by omega) (by omega) (df_R_st (Or.inl rfl)) (df_R_st (Or.inr rfl)) (fun q => absurd q (by omega)) (fun y hy => absurd hy.1 (by omega)) (fun y hy => Or.inr hy)
  have hF0 := df_F_forget (u := u)
  have t1 := c_D_targetOf l G (sd_meet (i + 1) 0 (tc_up (tc_row u 66 (fun _ => 0) 34) 56 14 0)) (n := n) (i := i) (by rw [df_F_meet.2 1 (by decide), hF0.2 1 (by decide)]; exact hs) hn (by omega) (by rw [df_pm df_F_meet, df_pm hF0]; exact (hP i hi).2.2.2.1)
  rw [df_pm df_F_meet, df_pm hF0] at t1
  refine tv_aload_n (pc := 0) dD_isLive_0 (by rfl) ?_
  refine tv_callVv (pc := 1) [] tb_56 (by rfl) (c_D_forget l G u) (kVD_forget wm_791 ⟨by decide, by decide⟩) (by rfl) (Nat.le_of_ble_eq_true rfl) dD_isLive_1 ⟨by decide, by decide⟩ ?_
  refine tv_aload_n (pc := 4) dD_isLive_4 (by rfl) ?_
  refine tv_iload_n (pc := 5) dD_isLive_5 (by rfl) ?_
  refine tv_iconst (v := 1) (pc := 6) dD_isLive_6 (by decide) ?_
  refine tv_iadd (pc := 7) dD_isLive_7 ?_
  rw [nI_1]
  refine tv_callVv (pc := 8) [_] tb_56 (by rfl) (c_D_meet l G _ (x := i + 1) (k := 0) (by omega) w0 a2) (kVD_meet wm_795 ⟨by decide, by decide⟩) (by rfl) (Nat.le_of_ble_eq_true rfl) dD_isLive_8 ⟨by decide, by decide⟩ ?_
  refine tv_aload_n (pc := 11) dD_isLive_11 (by rfl) ?_
  refine tv_aload_n (pc := 12) dD_isLive_12 (by rfl) ?_
  refine tv_iload_n (pc := 13) dD_isLive_13 (by rfl) ?_
  refine tv_callVi (pc := 14) [_] tb_56 (by rfl) t1 (kVD_targetOf wm_799 ⟨by decide, by decide⟩) (by rfl) (Nat.le_of_ble_eq_true rfl) dD_isLive_14 ⟨by decide, by decide⟩ ?_
  refine tv_callVv (pc := 17) [_] tb_56 (by rfl) (c_D_meet l G _ (x := tp_tg n (pm u 0) i) (k := k1) (by omega) a1 a3) (kVD_meet wm_795 ⟨by decide, by decide⟩) (by rfl) (Nat.le_of_ble_eq_true rfl) dD_isLive_17 ⟨by decide, by decide⟩ ?_
  exact loop _ k2 _ _ (hF0.tr a5) a4 (Nat.lt_succ_self _)
/-! does a copy hold -/
def fl_p (x : Nat) : Nat := if 17 ≤ x then x - 17 else x
def fl_h (P1 : tp_P) (a b x : Nat) : Prop := tp_cb P1 (fl_p x) a b ∨ (17 ≤ x ∧ tp_w P1 (fl_p x) ≠ some a ∧ tp_w P1 (fl_p x) ≠ some b)
noncomputable def fl_m (P1 : tp_P) (a b x : Nat) : Nat := @ite _ (fl_h P1 a b x) (Classical.propDecidable _) 17 0
def fl_suc (n : Nat) (P P1 : tp_P) (a b x y : Nat) : Prop := fl_p x < n ∧ (y = fl_p x + 1 + fl_m P1 a b x ∨ y = tp_tg n P (fl_p x) + fl_m P1 a b x)
theorem fl_cb {P : tp_P} {i a b : Nat} (hl : tp_line P i) (ha : a < 6) (hb : b < 6) (hne : a ≠ b) : tp_cb P i a b ↔ P 0 i = 1 ∧ P 1 i = nI a ∧ P 2 i = nI b := by
  obtain ⟨h0, h1, h2, -⟩ := hl
  unfold tp_cb
  constructor
  · rintro ⟨k, e1, e2, -⟩
    obtain ⟨x, hx, ex⟩ := h1 (by rw [k]; decide)
    obtain ⟨y, hy, ey⟩ := h2 (Or.inl k)
    rw [ex, show tp_n (nI x) = x from nI_clamp (by omega)] at e1
    rw [ey, show tp_n (nI y) = y from nI_clamp (by omega)] at e2
    exact ⟨k, by rw [ex, e1], by rw [ey, e2]⟩
  · rintro ⟨k, e1, e2⟩
    exact ⟨k, by rw [e1]; exact nI_clamp (by omega), by rw [e2]; exact nI_clamp (by omega), hne⟩
theorem fl_m_t {P1 : tp_P} {a b x : Nat} (h : fl_h P1 a b x) : fl_m P1 a b x = 17 := by unfold fl_m; rw [if_pos h]
theorem fl_m_f {P1 : tp_P} {a b x : Nat} (h : ¬ fl_h P1 a b x) : fl_m P1 a b x = 0 := by unfold fl_m; rw [if_neg h]
theorem fl_m_le {P1 : tp_P} {a b x : Nat} : fl_m P1 a b x = 0 ∨ fl_m P1 a b x = 17 := by
  by_cases h : fl_h P1 a b x
  · exact Or.inr (fl_m_t h)
  · exact Or.inl (fl_m_f h)
theorem fl_lo {x : Nat} (h : x < 17) : fl_p x = x := by unfold fl_p; rw [if_neg (by omega)]
theorem fl_hi {x : Nat} : fl_p (x + 17) = x := by unfold fl_p; rw [if_pos (by omega)]; omega
theorem fl_either {n : Nat} {P P1 : tp_P} {a b : Nat} (hn : n ≤ 16) : ∀ q, q ≤ n → df_R (fun x => x = 0) (fl_suc n P P1 a b) q ∨ df_R (fun x => x = 0) (fl_suc n P P1 a b) (q + 17)
  | 0, _ => Or.inl (df_R_st rfl)
  | q + 1, h => by
    have step : ∀ x, fl_p x = q → df_R (fun x => x = 0) (fl_suc n P P1 a b) x → df_R (fun x => x = 0) (fl_suc n P P1 a b) (q + 1) ∨ df_R (fun x => x = 0) (fl_suc n P P1 a b) (q + 1 + 17) := by
      intro x hx hr
      have := df_R_suc hr (y := q + 1 + fl_m P1 a b x) ⟨by rw [hx]; omega, Or.inl (by rw [hx])⟩
      rcases fl_m_le (P1 := P1) (a := a) (b := b) (x := x) with e | e <;> rw [e] at this
      · exact Or.inl this
      · exact Or.inr this
    rcases fl_either hn q (by omega) with h1 | h1
    · exact step q (fl_lo (by omega)) h1
    · exact step (q + 17) fl_hi h1
/-- what is met without the copy is where the copy doesn't hold -/
theorem fl_c {n : Nat} {P P1 : tp_P} {a b : Nat} (hn : n ≤ 16) (ht : ∀ i, i < n → tp_tg n P1 i = tp_tg n P i) {q : Nat} (hq : q ≤ n) : df_R (fun x => x = 0) (fl_suc n P P1 a b) q ↔ ¬ tp_c n P1 q a b := by
  have nx : ∀ i y, i < n → tp_nx n P1 i y → y ≤ n ∧ ∀ x, fl_p x = i → fl_suc n P P1 a b x (y + fl_m P1 a b x) := by
    intro i y hi hy
    have hy' : y = i + 1 ∨ y = tp_tg n P i := by
      rcases hy with e | e
      · exact Or.inl e
      · exact Or.inr (by rw [← ht i hi]; exact e)
    refine ⟨?_, fun x hx => ⟨by rw [hx]; exact hi, by rw [hx]; rcases hy' with e | e <;> rw [e] <;> simp⟩⟩
    rcases hy' with e | e
    · omega
    · rw [e]; exact tp_tg_le hi
  have h1 : tp_cs n P1 (fun q s u => s = a ∧ u = b ∧ ¬ df_R (fun x => x = 0) (fl_suc n P P1 a b) q) := by
    refine ⟨fun s u h => h.2.2 (df_R_st rfl), fun i y hi hy s u h => ?_⟩
    obtain ⟨rfl, rfl, hN⟩ := h
    obtain ⟨hyn, hsuc⟩ := nx i y hi hy
    by_cases hcb : tp_cb P1 i s u
    · exact Or.inl hcb
    · have low : ¬ df_R (fun x => x = 0) (fl_suc n P P1 s u) i := fun hr => by
        have := df_R_suc hr (hsuc i (fl_lo (by omega)))
        rw [fl_m_f (by rintro (h | h); (· rw [fl_lo (by omega)] at h; exact hcb h); (· omega))] at this
        exact hN this
      have high : df_R (fun x => x = 0) (fl_suc n P P1 s u) (i + 17) := (fl_either hn i (by omega)).resolve_left low
      refine Or.inr ⟨⟨rfl, rfl, low⟩, ?_⟩
      refine Classical.byContradiction fun hw => hN ?_
      have := df_R_suc high (hsuc (i + 17) fl_hi)
      rw [fl_m_f (by rintro (h | h); (· rw [fl_hi] at h; exact hcb h); (· rw [fl_hi] at h; exact hw h.2))] at this
      exact this
  constructor
  · rintro hr ⟨S, hS, hc⟩
    have := hr (fun x => x ≤ n → ¬ S x a b) (fun x hx => by rw [hx]; exact fun _ => hS.1 a b) (fun x y hx hy => ?_) hq
    · exact this hc
    · intro hyn hSy
      obtain ⟨hp, hy⟩ := hy
      by_cases hh : fl_h P1 a b x
      · rw [fl_m_t hh] at hy; omega
      · rw [fl_m_f hh] at hy
        have hy' : tp_nx n P1 (fl_p x) y := by
          rcases hy with e | e
          · exact Or.inl e
          · exact Or.inr (by rw [ht _ hp]; exact e)
        rcases hS.2 (fl_p x) y hp hy' a b hSy with h | h
        · exact hh (Or.inl h)
        · by_cases h17 : 17 ≤ x
          · exact hh (Or.inr ⟨h17, h.2⟩)
          · rw [fl_lo (by omega)] at h
            exact hx (by rw [fl_lo (by omega)] at hp; omega) h.1
  · intro hc
    exact Classical.byContradiction fun hN => hc ⟨_, h1, rfl, rfl, hN⟩
set_option maxRecDepth 100000 in
set_option maxHeartbeats 4000000 in
theorem c_D_follow (l : Launch) (G : tc_G) (u : tc_S) {n a b : Nat} (hs : u 56 1 = nI n) (hn : n ≤ 16) (ha : a < 6) (hb : b < 6) (hne : a ≠ b) (hP : ∀ i, i < n → tp_line (pm u 0) i) (hP1 : ∀ i, i < n → tp_line (pm u 16) i) (ht : ∀ i, i < n → tp_tg n (pm u 16) i = tp_tg n (pm u 0) i) : tc_C tcx G l yD_follow wD_follow r0D_follow 0 0 [.ref (tc_ad G 56), .int (nI a), .int (nI b)] u (tc_KV (fun v => df_F u v ∧ (∀ x, x < 34 → v 66 x = 0 ∨ v 66 x = 1) ∧ ∀ q, q ≤ n → (v 66 q = 1 ↔ ¬ tp_c n (pm u 16) q a b))) := by
  refine tw_ofV (own := "TracedCodeModel") [some (.ref (tc_ad G 56)), some (.int (nI a)), some (.int (nI b)), none, none, none, none, none] (by decide +kernel) rfl (Nat.le_of_ble_eq_true rfl) (by rfl) (fun p e s m args below meth c => ?_)
  have hsuc : ∀ x y, x < 34 → fl_suc n (pm u 0) (pm u 16) a b x y → y < 34 := by
    rintro x y - ⟨h1, h2⟩
    have := tp_tg_le (P := pm u 0) h1
    rcases fl_m_le (P1 := pm u 16) (a := a) (b := b) (x := x) with e | e <;> rw [e] at h2 <;> omega
  have loop : ∀ (M k : Nat) (v : tc_S) (l3 l4 l5 l6 l7 : Option Value), df_F u v → df_I (fun x => x = 0) (fl_suc n (pm u 0) (pm u 16) a b) (fun _ => True) k v → 2 * df_Z v 34 + k < M → tc_V tcx G p l e r0D_follow s m args below meth c bD_follow 8 tw "TracedCodeModel" none [] (MQ below (tc_Qc tcx G (tc_KV (fun v => df_F u v ∧ (∀ x, x < 34 → v 66 x = 0 ∨ v 66 x = 1) ∧ ∀ q, q ≤ n → (v 66 q = 1 ↔ ¬ tp_c n (pm u 16) q a b))) s.heap.size) args s 0 0 (tc_A tcx G s.heap.size)) 0 0 v 9 [some (.ref (tc_ad G 56)), some (.int (nI a)), some (.int (nI b)), l3, l4, l5, l6, l7] [] := by
    intro M
    induction M with
    | zero => intro k v l3 l4 l5 l6 l7 _ _ h; omega
    | succ M ih =>
      intro k v l3 l4 l5 l6 l7 hF hI hM
      have hk : v 56 14 = nI k := hI.1.1
      have hv1 : v 56 1 = nI n := by rw [hF.2 1 (by decide)]; exact hs
      cases k with
      | zero =>
        refine tv_aload_n (pc := 9) dD_follow_9 (by rfl) ?_
        refine tv_getI (pc := 10) 14 tb_56 (by rfl) uwD_ (by decide) wm_676 (by rfl) dD_follow_10 ?_
        refine tv_if_le (pc := 13) 199 dD_follow_13 (by decide) (fun _ => ?_) (fun h => absurd (by rw [hk]; decide) h)
        exact tv_vret (pc := 199) dD_follow_199 rfl (Nat.le_refl _) (Nat.le_refl _) ⟨rfl, hF, hI.1.2.2.1, fun q hq => (df_end hI hsuc (fun x hx => by omega) (by omega)).trans (fl_c hn ht hq)⟩
      | succ k =>
        obtain ⟨x, hx, ew, em, er, hJ, hk34, hz⟩ := df_pop hI
        have ik : tc_ix (nI k) 34 k := tc_ixN hk34 (by decide)
        have e67 : (tc_up v 56 14 (nI k)) 67 k = nI x := by rw [tc_up_ne (by decide)]; exact ew
        have el : (tc_up v 56 14 (nI k)) 56 1 = nI n := by rw [tc_up_at (by decide)]; exact hv1
        have hF1 : df_F u (tc_up v 56 14 (nI k)) := hF.tr df_F_left
        have hst1 : ∀ y, (fun x => x = 0) y → (tc_up v 56 14 (nI k)) 66 y = 1 := fun y hy => by rw [tc_up_ne (by decide)]; exact hI.2 y hy
        have r64 : tc_V tcx G p l e r0D_follow s m args below meth c bD_follow 8 tw "TracedCodeModel" none [] (MQ below (tc_Qc tcx G (tc_KV (fun v => df_F u v ∧ (∀ x, x < 34 → v 66 x = 0 ∨ v 66 x = 1) ∧ ∀ q, q ≤ n → (v 66 q = 1 ↔ ¬ tp_c n (pm u 16) q a b))) s.heap.size) args s 0 0 (tc_A tcx G s.heap.size)) 0 0 (tc_up v 56 14 (nI k)) 64 [some (.ref (tc_ad G 56)), some (.int (nI a)), some (.int (nI b)), some (.int (nI x)), some (.int (tp_b (17 ≤ x))), some (.int (nI (fl_p x))), l6, l7] [] := by
          by_cases hxn : fl_p x < n
          · have hx16 : fl_p x < 16 := by omega
            have i32 : tc_ix (16 + nI (fl_p x)) 32 (16 + fl_p x) := ix16 hx16
            have hl := hP1 _ hxn
            have tle := tp_tg_le (P := pm u 0) hxn
            have f0 : (tc_up v 56 14 (nI k)) 57 (16 + fl_p x) = pm u 16 0 (fl_p x) := by rw [← df_pm hF1, pm_of (by decide)]
            have f1 : (tc_up v 56 14 (nI k)) 58 (16 + fl_p x) = pm u 16 1 (fl_p x) := by rw [← df_pm hF1, pm_of (by decide)]
            have f2 : (tc_up v 56 14 (nI k)) 59 (16 + fl_p x) = pm u 16 2 (fl_p x) := by rw [← df_pm hF1, pm_of (by decide)]
            have wa := c_D_writes l G (tc_up v 56 14 (nI k)) hx16 ha (by rw [df_pm hF1]; exact hl)
            have wb := c_D_writes l G (tc_up v 56 14 (nI k)) hx16 hb (by rw [df_pm hF1]; exact hl)
            rw [df_pm hF1] at wa wb
            have cbi := fl_cb hl ha hb hne
            have fl17 : fl_p x + 1 + fl_m (pm u 16) a b x < 34 ∧ tp_tg n (pm u 0) (fl_p x) + fl_m (pm u 16) a b x < 34 := by
              rcases fl_m_le (P1 := pm u 16) (a := a) (b := b) (x := x) with e | e <;> rw [e] <;> omega
            obtain ⟨k1, k2, a1, a2, a3, a4, a5, a6⟩ := df_two (a := fl_p x + 1 + fl_m (pm u 16) a b x) (b := tp_tg n (pm u 0) (fl_p x) + fl_m (pm u 16) a b x) hJ fl17.1 fl17.2 (df_R_suc er ⟨hxn, Or.inl rfl⟩) (df_R_suc er ⟨hxn, Or.inr rfl⟩) trivial (fun y hy => hy.2) (fun y hy => Or.inl (hst1 y hy))
            have t1 := c_D_targetOf l G (sd_meet (fl_p x + 1 + fl_m (pm u 16) a b x) k (tc_up v 56 14 (nI k))) (n := n) (i := fl_p x) (by rw [df_F_meet.2 1 (by decide)]; exact el) hn hx16 (by rw [df_pm df_F_meet, df_pm hF1]; exact (hP _ hxn).2.2.2.1)
            rw [df_pm df_F_meet, df_pm hF1] at t1
            have r170 : tc_V tcx G p l e r0D_follow s m args below meth c bD_follow 8 tw "TracedCodeModel" none [] (MQ below (tc_Qc tcx G (tc_KV (fun v => df_F u v ∧ (∀ x, x < 34 → v 66 x = 0 ∨ v 66 x = 1) ∧ ∀ q, q ≤ n → (v 66 q = 1 ↔ ¬ tp_c n (pm u 16) q a b))) s.heap.size) args s 0 0 (tc_A tcx G s.heap.size)) 0 0 (tc_up v 56 14 (nI k)) 170 [some (.ref (tc_ad G 56)), some (.int (nI a)), some (.int (nI b)), some (.int (nI x)), some (.int (tp_b (fl_h (pm u 16) a b x))), some (.int (nI (fl_p x))), some (.int (tp_b (tp_cb (pm u 16) (fl_p x) a b))), l7] [.int (nI (fl_m (pm u 16) a b x))] := by
              refine tv_istore7 (pc := 170) dD_follow_170 (by rfl) ?_
              refine tv_aload_n (pc := 172) dD_follow_172 (by rfl) ?_
              refine tv_iload (pc := 173) dD_follow_173 (by rfl) ?_
              refine tv_iconst (v := 1) (pc := 175) dD_follow_175 (by decide) ?_
              refine tv_iadd (pc := 176) dD_follow_176 ?_
              refine tv_iload (pc := 177) dD_follow_177 (by rfl) ?_
              rw [nI_1]
              refine tv_iadd (pc := 179) dD_follow_179 ?_
              rw [nI_add]
              refine tv_callVv (pc := 180) [_] tb_56 (by rfl) (c_D_meet l G _ (x := fl_p x + 1 + fl_m (pm u 16) a b x) (k := k) fl17.1 tc_up_self a2) (kVD_meet wm_795 ⟨by decide, by decide⟩) (by rfl) (Nat.le_of_ble_eq_true rfl) dD_follow_180 ⟨by decide, by decide⟩ ?_
              refine tv_aload_n (pc := 183) dD_follow_183 (by rfl) ?_
              refine tv_aload_n (pc := 184) dD_follow_184 (by rfl) ?_
              refine tv_iload (pc := 185) dD_follow_185 (by rfl) ?_
              refine tv_callVi (pc := 187) [_] tb_56 (by rfl) t1 (kVD_targetOf wm_799 ⟨by decide, by decide⟩) (by rfl) (Nat.le_of_ble_eq_true rfl) dD_follow_187 ⟨by decide, by decide⟩ ?_
              refine tv_iload (pc := 190) dD_follow_190 (by rfl) ?_
              refine tv_iadd (pc := 192) dD_follow_192 ?_
              rw [nI_add]
              refine tv_callVv (pc := 193) [_] tb_56 (by rfl) (c_D_meet l G _ (x := tp_tg n (pm u 0) (fl_p x) + fl_m (pm u 16) a b x) (k := k1) fl17.2 a1 a3) (kVD_meet wm_795 ⟨by decide, by decide⟩) (by rfl) (Nat.le_of_ble_eq_true rfl) dD_follow_193 ⟨by decide, by decide⟩ ?_
              refine tv_goto (pc := 196) 9 dD_follow_196 (by decide) ?_
              exact ih k2 _ _ _ _ _ _ (hF1.tr a5) a4 (by omega)
            have r157 : tc_V tcx G p l e r0D_follow s m args below meth c bD_follow 8 tw "TracedCodeModel" none [] (MQ below (tc_Qc tcx G (tc_KV (fun v => df_F u v ∧ (∀ x, x < 34 → v 66 x = 0 ∨ v 66 x = 1) ∧ ∀ q, q ≤ n → (v 66 q = 1 ↔ ¬ tp_c n (pm u 16) q a b))) s.heap.size) args s 0 0 (tc_A tcx G s.heap.size)) 0 0 (tc_up v 56 14 (nI k)) 157 [some (.ref (tc_ad G 56)), some (.int (nI a)), some (.int (nI b)), some (.int (nI x)), some (.int (tp_b (17 ≤ x))), some (.int (nI (fl_p x))), some (.int (tp_b (tp_cb (pm u 16) (fl_p x) a b))), l7] [.int (tp_b (fl_h (pm u 16) a b x))] := by
              refine tv_istore4 (pc := 157) dD_follow_157 (by rfl) ?_
              refine tv_iload (pc := 159) dD_follow_159 (by rfl) ?_
              refine tv_if_eq (pc := 161) 169 dD_follow_161 (by decide) (fun h161 => ?_) (fun h161 => ?_)
              · skip
                refine tv_iconst (v := 0) (pc := 169) dD_follow_169 (by decide) ?_
                first
                | (have hq : tp_b (fl_h (pm u 16) a b x) = 0 := (by assumption)
                   rw [fl_m_f (tp_b_q hq)] at r170
                   exact r170)
                | (have hq : ¬ tp_b (fl_h (pm u 16) a b x) = 0 := (by assumption)
                   rw [fl_m_t (tp_b_p hq)] at r170
                   exact r170)
              · skip
                refine tv_bipush (v := 17) (pc := 164) dD_follow_164 (by decide) ?_
                refine tv_goto (pc := 166) 170 dD_follow_166 (by decide) ?_
                first
                | (have hq : tp_b (fl_h (pm u 16) a b x) = 0 := (by assumption)
                   rw [fl_m_f (tp_b_q hq)] at r170
                   exact r170)
                | (have hq : ¬ tp_b (fl_h (pm u 16) a b x) = 0 := (by assumption)
                   rw [fl_m_t (tp_b_p hq)] at r170
                   exact r170)
            have r120 : tc_V tcx G p l e r0D_follow s m args below meth c bD_follow 8 tw "TracedCodeModel" none [] (MQ below (tc_Qc tcx G (tc_KV (fun v => df_F u v ∧ (∀ x, x < 34 → v 66 x = 0 ∨ v 66 x = 1) ∧ ∀ q, q ≤ n → (v 66 q = 1 ↔ ¬ tp_c n (pm u 16) q a b))) s.heap.size) args s 0 0 (tc_A tcx G s.heap.size)) 0 0 (tc_up v 56 14 (nI k)) 120 [some (.ref (tc_ad G 56)), some (.int (nI a)), some (.int (nI b)), some (.int (nI x)), some (.int (tp_b (17 ≤ x))), some (.int (nI (fl_p x))), l6, l7] [.int (tp_b (tp_cb (pm u 16) (fl_p x) a b))] := by
              refine tv_istore6 (pc := 120) dD_follow_120 (by rfl) ?_
              refine tv_iload (pc := 122) dD_follow_122 (by rfl) ?_
              refine tv_if_ne (pc := 124) 152 dD_follow_124 (by decide) (fun h124 => ?_) (fun h124 => ?_)
              · skip
                refine tv_iconst (v := 1) (pc := 152) dD_follow_152 (by decide) ?_
                refine tv_goto (pc := 153) 157 dD_follow_153 (by decide) ?_
                first
                | (have hq : ¬ tp_b (tp_cb (pm u 16) (fl_p x) a b) = 0 := (by assumption)
                   rw [tp_b_t (p := fl_h (pm u 16) a b x) (Or.inl (tp_b_p hq))] at r157
                   exact r157)
                | (have hq : tp_b (17 ≤ x) = 0 := (by assumption)
                   rw [tp_b_f (p := fl_h (pm u 16) a b x) (fun z => z.elim (tp_b_q (by assumption)) (fun z => tp_b_q hq z.1))] at r157
                   exact r157)
                | (have hq : ¬ tp_b (tp_w (pm u 16) (fl_p x) = some a) = 0 := (by assumption)
                   rw [tp_b_f (p := fl_h (pm u 16) a b x) (fun z => z.elim (tp_b_q (by assumption)) (fun z => z.2.1 (tp_b_p hq)))] at r157
                   exact r157)
                | (have hq : ¬ tp_b (tp_w (pm u 16) (fl_p x) = some b) = 0 := (by assumption)
                   rw [tp_b_f (p := fl_h (pm u 16) a b x) (fun z => z.elim (tp_b_q (by assumption)) (fun z => z.2.2 (tp_b_p hq)))] at r157
                   exact r157)
                | (have hq : ¬ tp_b (17 ≤ x) = 0 := (by assumption)
                   have hqa : tp_b (tp_w (pm u 16) (fl_p x) = some a) = 0 := (by assumption)
                   have hqb : tp_b (tp_w (pm u 16) (fl_p x) = some b) = 0 := (by assumption)
                   rw [tp_b_t (p := fl_h (pm u 16) a b x) (Or.inr ⟨tp_b_p hq, tp_b_q hqa, tp_b_q hqb⟩)] at r157
                   exact r157)
              · skip
                refine tv_iload (pc := 127) dD_follow_127 (by rfl) ?_
                refine tv_if_eq (pc := 129) 156 dD_follow_129 (by decide) (fun h129 => ?_) (fun h129 => ?_)
                · skip
                  refine tv_iconst (v := 0) (pc := 156) dD_follow_156 (by decide) ?_
                  first
                  | (have hq : ¬ tp_b (tp_cb (pm u 16) (fl_p x) a b) = 0 := (by assumption)
                     rw [tp_b_t (p := fl_h (pm u 16) a b x) (Or.inl (tp_b_p hq))] at r157
                     exact r157)
                  | (have hq : tp_b (17 ≤ x) = 0 := (by assumption)
                     rw [tp_b_f (p := fl_h (pm u 16) a b x) (fun z => z.elim (tp_b_q (by assumption)) (fun z => tp_b_q hq z.1))] at r157
                     exact r157)
                  | (have hq : ¬ tp_b (tp_w (pm u 16) (fl_p x) = some a) = 0 := (by assumption)
                     rw [tp_b_f (p := fl_h (pm u 16) a b x) (fun z => z.elim (tp_b_q (by assumption)) (fun z => z.2.1 (tp_b_p hq)))] at r157
                     exact r157)
                  | (have hq : ¬ tp_b (tp_w (pm u 16) (fl_p x) = some b) = 0 := (by assumption)
                     rw [tp_b_f (p := fl_h (pm u 16) a b x) (fun z => z.elim (tp_b_q (by assumption)) (fun z => z.2.2 (tp_b_p hq)))] at r157
                     exact r157)
                  | (have hq : ¬ tp_b (17 ≤ x) = 0 := (by assumption)
                     have hqa : tp_b (tp_w (pm u 16) (fl_p x) = some a) = 0 := (by assumption)
                     have hqb : tp_b (tp_w (pm u 16) (fl_p x) = some b) = 0 := (by assumption)
                     rw [tp_b_t (p := fl_h (pm u 16) a b x) (Or.inr ⟨tp_b_p hq, tp_b_q hqa, tp_b_q hqb⟩)] at r157
                     exact r157)
                · skip
                  refine tv_aload_n (pc := 132) dD_follow_132 (by rfl) ?_
                  refine tv_iload (pc := 133) dD_follow_133 (by rfl) ?_
                  refine tv_iload_n (pc := 135) dD_follow_135 (by rfl) ?_
                  refine tv_callVi (pc := 136) [_, _] tb_56 (by rfl) wa (kVD_writes wm_811 ⟨by decide, by decide⟩) (by rfl) (Nat.le_of_ble_eq_true rfl) dD_follow_136 ⟨by decide, by decide⟩ ?_
                  refine tv_if_ne (pc := 139) 156 dD_follow_139 (by decide) (fun h139 => ?_) (fun h139 => ?_)
                  · skip
                    refine tv_iconst (v := 0) (pc := 156) dD_follow_156 (by decide) ?_
                    first
                    | (have hq : ¬ tp_b (tp_cb (pm u 16) (fl_p x) a b) = 0 := (by assumption)
                       rw [tp_b_t (p := fl_h (pm u 16) a b x) (Or.inl (tp_b_p hq))] at r157
                       exact r157)
                    | (have hq : tp_b (17 ≤ x) = 0 := (by assumption)
                       rw [tp_b_f (p := fl_h (pm u 16) a b x) (fun z => z.elim (tp_b_q (by assumption)) (fun z => tp_b_q hq z.1))] at r157
                       exact r157)
                    | (have hq : ¬ tp_b (tp_w (pm u 16) (fl_p x) = some a) = 0 := (by assumption)
                       rw [tp_b_f (p := fl_h (pm u 16) a b x) (fun z => z.elim (tp_b_q (by assumption)) (fun z => z.2.1 (tp_b_p hq)))] at r157
                       exact r157)
                    | (have hq : ¬ tp_b (tp_w (pm u 16) (fl_p x) = some b) = 0 := (by assumption)
                       rw [tp_b_f (p := fl_h (pm u 16) a b x) (fun z => z.elim (tp_b_q (by assumption)) (fun z => z.2.2 (tp_b_p hq)))] at r157
                       exact r157)
                    | (have hq : ¬ tp_b (17 ≤ x) = 0 := (by assumption)
                       have hqa : tp_b (tp_w (pm u 16) (fl_p x) = some a) = 0 := (by assumption)
                       have hqb : tp_b (tp_w (pm u 16) (fl_p x) = some b) = 0 := (by assumption)
                       rw [tp_b_t (p := fl_h (pm u 16) a b x) (Or.inr ⟨tp_b_p hq, tp_b_q hqa, tp_b_q hqb⟩)] at r157
                       exact r157)
                  · skip
                    refine tv_aload_n (pc := 142) dD_follow_142 (by rfl) ?_
                    refine tv_iload (pc := 143) dD_follow_143 (by rfl) ?_
                    refine tv_iload_n (pc := 145) dD_follow_145 (by rfl) ?_
                    refine tv_callVi (pc := 146) [_, _] tb_56 (by rfl) wb (kVD_writes wm_811 ⟨by decide, by decide⟩) (by rfl) (Nat.le_of_ble_eq_true rfl) dD_follow_146 ⟨by decide, by decide⟩ ?_
                    refine tv_if_ne (pc := 149) 156 dD_follow_149 (by decide) (fun h149 => ?_) (fun h149 => ?_)
                    · skip
                      refine tv_iconst (v := 0) (pc := 156) dD_follow_156 (by decide) ?_
                      first
                      | (have hq : ¬ tp_b (tp_cb (pm u 16) (fl_p x) a b) = 0 := (by assumption)
                         rw [tp_b_t (p := fl_h (pm u 16) a b x) (Or.inl (tp_b_p hq))] at r157
                         exact r157)
                      | (have hq : tp_b (17 ≤ x) = 0 := (by assumption)
                         rw [tp_b_f (p := fl_h (pm u 16) a b x) (fun z => z.elim (tp_b_q (by assumption)) (fun z => tp_b_q hq z.1))] at r157
                         exact r157)
                      | (have hq : ¬ tp_b (tp_w (pm u 16) (fl_p x) = some a) = 0 := (by assumption)
                         rw [tp_b_f (p := fl_h (pm u 16) a b x) (fun z => z.elim (tp_b_q (by assumption)) (fun z => z.2.1 (tp_b_p hq)))] at r157
                         exact r157)
                      | (have hq : ¬ tp_b (tp_w (pm u 16) (fl_p x) = some b) = 0 := (by assumption)
                         rw [tp_b_f (p := fl_h (pm u 16) a b x) (fun z => z.elim (tp_b_q (by assumption)) (fun z => z.2.2 (tp_b_p hq)))] at r157
                         exact r157)
                      | (have hq : ¬ tp_b (17 ≤ x) = 0 := (by assumption)
                         have hqa : tp_b (tp_w (pm u 16) (fl_p x) = some a) = 0 := (by assumption)
                         have hqb : tp_b (tp_w (pm u 16) (fl_p x) = some b) = 0 := (by assumption)
                         rw [tp_b_t (p := fl_h (pm u 16) a b x) (Or.inr ⟨tp_b_p hq, tp_b_q hqa, tp_b_q hqb⟩)] at r157
                         exact r157)
                    · skip
                      refine tv_iconst (v := 1) (pc := 152) dD_follow_152 (by decide) ?_
                      refine tv_goto (pc := 153) 157 dD_follow_153 (by decide) ?_
                      first
                      | (have hq : ¬ tp_b (tp_cb (pm u 16) (fl_p x) a b) = 0 := (by assumption)
                         rw [tp_b_t (p := fl_h (pm u 16) a b x) (Or.inl (tp_b_p hq))] at r157
                         exact r157)
                      | (have hq : tp_b (17 ≤ x) = 0 := (by assumption)
                         rw [tp_b_f (p := fl_h (pm u 16) a b x) (fun z => z.elim (tp_b_q (by assumption)) (fun z => tp_b_q hq z.1))] at r157
                         exact r157)
                      | (have hq : ¬ tp_b (tp_w (pm u 16) (fl_p x) = some a) = 0 := (by assumption)
                         rw [tp_b_f (p := fl_h (pm u 16) a b x) (fun z => z.elim (tp_b_q (by assumption)) (fun z => z.2.1 (tp_b_p hq)))] at r157
                         exact r157)
                      | (have hq : ¬ tp_b (tp_w (pm u 16) (fl_p x) = some b) = 0 := (by assumption)
                         rw [tp_b_f (p := fl_h (pm u 16) a b x) (fun z => z.elim (tp_b_q (by assumption)) (fun z => z.2.2 (tp_b_p hq)))] at r157
                         exact r157)
                      | (have hq : ¬ tp_b (17 ≤ x) = 0 := (by assumption)
                         have hqa : tp_b (tp_w (pm u 16) (fl_p x) = some a) = 0 := (by assumption)
                         have hqb : tp_b (tp_w (pm u 16) (fl_p x) = some b) = 0 := (by assumption)
                         rw [tp_b_t (p := fl_h (pm u 16) a b x) (Or.inr ⟨tp_b_p hq, tp_b_q hqa, tp_b_q hqb⟩)] at r157
                         exact r157)
            refine tv_iload (pc := 64) dD_follow_64 (by rfl) ?_
            refine tv_aload_n (pc := 66) dD_follow_66 (by rfl) ?_
            refine tv_getI (pc := 67) 1 tb_56 (by rfl) uwD_ (by decide) wm_663 (by rfl) dD_follow_67 ?_
            refine tv_icmp_ge (pc := 70) 196 dD_follow_70 (by decide) (fun h => absurd h (by rw [el]; exact nI_ge hxn (by omega))) (fun _ => ?_)
            refine tv_aload_n (pc := 73) dD_follow_73 (by rfl) ?_
            refine tv_getR (pc := 74) 2 tb_56 (by rfl) uwD_ (by decide) wm_664 (by rfl) dD_follow_74 ?_
            refine tv_bipush (v := 16) (pc := 77) dD_follow_77 (by decide) ?_
            refine tv_iload (pc := 79) dD_follow_79 (by rfl) ?_
            refine tv_iadd (pc := 81) dD_follow_81 ?_
            refine tv_iald (pc := 82) tb_57 (by assumption) dD_follow_82 ?_
            rw [f0]
            refine tv_iconst (v := 1) (pc := 83) dD_follow_83 (by decide) ?_
            refine tv_icmp_ne (pc := 84) 119 dD_follow_84 (by decide) (fun h84 => ?_) (fun h84 => ?_)
            · skip
              refine tv_iconst (v := 0) (pc := 119) dD_follow_119 (by decide) ?_
              first
              | (rw [tp_b_t (cbi.mpr ⟨by assumption, by assumption, by assumption⟩)] at r120
                 exact r120)
              | (have hq : ¬ pm u 16 0 (fl_p x) = 1 := (by assumption)
                 rw [tp_b_f (p := tp_cb (pm u 16) (fl_p x) a b) (fun z => hq (cbi.mp z).1)] at r120
                 exact r120)
              | (have hq : ¬ pm u 16 1 (fl_p x) = nI a := (by assumption)
                 rw [tp_b_f (p := tp_cb (pm u 16) (fl_p x) a b) (fun z => hq (cbi.mp z).2.1)] at r120
                 exact r120)
              | (have hq : ¬ pm u 16 2 (fl_p x) = nI b := (by assumption)
                 rw [tp_b_f (p := tp_cb (pm u 16) (fl_p x) a b) (fun z => hq (cbi.mp z).2.2)] at r120
                 exact r120)
            · skip
              refine tv_aload_n (pc := 87) dD_follow_87 (by rfl) ?_
              refine tv_getR (pc := 88) 3 tb_56 (by rfl) uwD_ (by decide) wm_665 (by rfl) dD_follow_88 ?_
              refine tv_bipush (v := 16) (pc := 91) dD_follow_91 (by decide) ?_
              refine tv_iload (pc := 93) dD_follow_93 (by rfl) ?_
              refine tv_iadd (pc := 95) dD_follow_95 ?_
              refine tv_iald (pc := 96) tb_58 (by assumption) dD_follow_96 ?_
              rw [f1]
              refine tv_iload_n (pc := 97) dD_follow_97 (by rfl) ?_
              refine tv_icmp_ne (pc := 98) 119 dD_follow_98 (by decide) (fun h98 => ?_) (fun h98 => ?_)
              · skip
                refine tv_iconst (v := 0) (pc := 119) dD_follow_119 (by decide) ?_
                first
                | (rw [tp_b_t (cbi.mpr ⟨by assumption, by assumption, by assumption⟩)] at r120
                   exact r120)
                | (have hq : ¬ pm u 16 0 (fl_p x) = 1 := (by assumption)
                   rw [tp_b_f (p := tp_cb (pm u 16) (fl_p x) a b) (fun z => hq (cbi.mp z).1)] at r120
                   exact r120)
                | (have hq : ¬ pm u 16 1 (fl_p x) = nI a := (by assumption)
                   rw [tp_b_f (p := tp_cb (pm u 16) (fl_p x) a b) (fun z => hq (cbi.mp z).2.1)] at r120
                   exact r120)
                | (have hq : ¬ pm u 16 2 (fl_p x) = nI b := (by assumption)
                   rw [tp_b_f (p := tp_cb (pm u 16) (fl_p x) a b) (fun z => hq (cbi.mp z).2.2)] at r120
                   exact r120)
              · skip
                refine tv_aload_n (pc := 101) dD_follow_101 (by rfl) ?_
                refine tv_getR (pc := 102) 4 tb_56 (by rfl) uwD_ (by decide) wm_666 (by rfl) dD_follow_102 ?_
                refine tv_bipush (v := 16) (pc := 105) dD_follow_105 (by decide) ?_
                refine tv_iload (pc := 107) dD_follow_107 (by rfl) ?_
                refine tv_iadd (pc := 109) dD_follow_109 ?_
                refine tv_iald (pc := 110) tb_59 (by assumption) dD_follow_110 ?_
                rw [f2]
                refine tv_iload_n (pc := 111) dD_follow_111 (by rfl) ?_
                refine tv_icmp_ne (pc := 112) 119 dD_follow_112 (by decide) (fun h112 => ?_) (fun h112 => ?_)
                · skip
                  refine tv_iconst (v := 0) (pc := 119) dD_follow_119 (by decide) ?_
                  first
                  | (rw [tp_b_t (cbi.mpr ⟨by assumption, by assumption, by assumption⟩)] at r120
                     exact r120)
                  | (have hq : ¬ pm u 16 0 (fl_p x) = 1 := (by assumption)
                     rw [tp_b_f (p := tp_cb (pm u 16) (fl_p x) a b) (fun z => hq (cbi.mp z).1)] at r120
                     exact r120)
                  | (have hq : ¬ pm u 16 1 (fl_p x) = nI a := (by assumption)
                     rw [tp_b_f (p := tp_cb (pm u 16) (fl_p x) a b) (fun z => hq (cbi.mp z).2.1)] at r120
                     exact r120)
                  | (have hq : ¬ pm u 16 2 (fl_p x) = nI b := (by assumption)
                     rw [tp_b_f (p := tp_cb (pm u 16) (fl_p x) a b) (fun z => hq (cbi.mp z).2.2)] at r120
                     exact r120)
                · skip
                  refine tv_iconst (v := 1) (pc := 115) dD_follow_115 (by decide) ?_
                  refine tv_goto (pc := 116) 120 dD_follow_116 (by decide) ?_
                  first
                  | (rw [tp_b_t (cbi.mpr ⟨by assumption, by assumption, by assumption⟩)] at r120
                     exact r120)
                  | (have hq : ¬ pm u 16 0 (fl_p x) = 1 := (by assumption)
                     rw [tp_b_f (p := tp_cb (pm u 16) (fl_p x) a b) (fun z => hq (cbi.mp z).1)] at r120
                     exact r120)
                  | (have hq : ¬ pm u 16 1 (fl_p x) = nI a := (by assumption)
                     rw [tp_b_f (p := tp_cb (pm u 16) (fl_p x) a b) (fun z => hq (cbi.mp z).2.1)] at r120
                     exact r120)
                  | (have hq : ¬ pm u 16 2 (fl_p x) = nI b := (by assumption)
                     rw [tp_b_f (p := tp_cb (pm u 16) (fl_p x) a b) (fun z => hq (cbi.mp z).2.2)] at r120
                     exact r120)
          · have hI2 := df_close hJ trivial (fun y hy => absurd hy.1 hxn) hst1
            have hp34 : fl_p x < 34 := by unfold fl_p; split <;> omega
            refine tv_iload (pc := 64) dD_follow_64 (by rfl) ?_
            refine tv_aload_n (pc := 66) dD_follow_66 (by rfl) ?_
            refine tv_getI (pc := 67) 1 tb_56 (by rfl) uwD_ (by decide) wm_663 (by rfl) dD_follow_67 ?_
            refine tv_icmp_ge (pc := 70) 196 dD_follow_70 (by decide) (fun _ => ?_) (fun h => absurd (by rw [el]; exact nI_le (by omega) (by omega)) h)
            refine tv_goto (pc := 196) 9 dD_follow_196 (by decide) ?_
            exact ih k _ _ _ _ _ _ hF1 hI2 (by omega)
        by_cases h17 : 17 ≤ x
        · rw [tp_b_t h17, show fl_p x = x - 17 by unfold fl_p; rw [if_pos h17]] at r64
          have e17 : nI x - 17 = nI (x - 17) := by
            rw [show x = (x - 17) + 17 by omega, ← nI_add, show nI 17 = (17 : Int32) from rfl, Int32.add_sub_cancel, Nat.add_sub_cancel]
          refine tv_aload_n (pc := 9) dD_follow_9 (by rfl) ?_
          refine tv_getI (pc := 10) 14 tb_56 (by rfl) uwD_ (by decide) wm_676 (by rfl) dD_follow_10 ?_
          refine tv_if_le (pc := 13) 199 dD_follow_13 (by decide) (fun h => absurd h (by rw [hk]; exact nI_nle (by omega) (by omega))) (fun _ => ?_)
          refine tv_aload_n (pc := 16) dD_follow_16 (by rfl) ?_
          refine tv_dup (pc := 17) dD_follow_17 (by rfl) ?_
          refine tv_getI (pc := 18) 14 tb_56 (by rfl) uwD_ (by decide) wm_676 (by rfl) dD_follow_18 ?_
          rw [hk]
          refine tv_iconst (v := 1) (pc := 21) dD_follow_21 (by decide) ?_
          refine tv_isub (pc := 22) dD_follow_22 ?_
          rw [nI_pred]
          refine tv_putI (ty := .int) (pc := 23) 14 tyD_ tb_56 (by rfl) uwD_ (by decide) wm_676 okD_ nmD_ (by rfl) (by decide +kernel) (by rfl) (by rfl) (by rfl) dD_follow_23 ?_
          refine tv_aload_n (pc := 26) dD_follow_26 (by rfl) ?_
          refine tv_getR (pc := 27) 13 tb_56 (by rfl) uwD_ (by decide) wm_675 (by rfl) dD_follow_27 ?_
          refine tv_aload_n (pc := 30) dD_follow_30 (by rfl) ?_
          refine tv_getI (pc := 31) 14 tb_56 (by rfl) uwD_ (by decide) wm_676 (by rfl) dD_follow_31 ?_
          rw [tc_up_self]
          refine tv_iald (pc := 34) tb_67 (by assumption) dD_follow_34 ?_
          rw [e67]
          refine tv_istore3 (pc := 35) dD_follow_35 (by rfl) ?_
          refine tv_iload_n (pc := 36) dD_follow_36 (by rfl) ?_
          refine tv_bipush (v := 17) (pc := 37) dD_follow_37 (by decide) ?_
          refine tv_icmp_lt (pc := 39) 46 dD_follow_39 (by decide) (fun h => absurd h (nI_nlt (b := 17) h17 (by omega))) (fun _ => ?_)
          refine tv_iconst (v := 1) (pc := 42) dD_follow_42 (by decide) ?_
          refine tv_goto (pc := 43) 47 dD_follow_43 (by decide) ?_
          refine tv_istore4 (pc := 47) dD_follow_47 (by rfl) ?_
          refine tv_iload (pc := 49) dD_follow_49 (by rfl) ?_
          refine tv_if_eq (pc := 51) 61 dD_follow_51 (by decide) (fun h => absurd h (by decide)) (fun _ => ?_)
          refine tv_iload_n (pc := 54) dD_follow_54 (by rfl) ?_
          refine tv_bipush (v := 17) (pc := 55) dD_follow_55 (by decide) ?_
          refine tv_isub (pc := 57) dD_follow_57 ?_
          rw [e17]
          refine tv_goto (pc := 58) 62 dD_follow_58 (by decide) ?_
          refine tv_istore5 (pc := 62) dD_follow_62 (by rfl) ?_
          exact r64
        · rw [tp_b_f h17, show fl_p x = x by unfold fl_p; rw [if_neg h17]] at r64
          refine tv_aload_n (pc := 9) dD_follow_9 (by rfl) ?_
          refine tv_getI (pc := 10) 14 tb_56 (by rfl) uwD_ (by decide) wm_676 (by rfl) dD_follow_10 ?_
          refine tv_if_le (pc := 13) 199 dD_follow_13 (by decide) (fun h => absurd h (by rw [hk]; exact nI_nle (by omega) (by omega))) (fun _ => ?_)
          refine tv_aload_n (pc := 16) dD_follow_16 (by rfl) ?_
          refine tv_dup (pc := 17) dD_follow_17 (by rfl) ?_
          refine tv_getI (pc := 18) 14 tb_56 (by rfl) uwD_ (by decide) wm_676 (by rfl) dD_follow_18 ?_
          rw [hk]
          refine tv_iconst (v := 1) (pc := 21) dD_follow_21 (by decide) ?_
          refine tv_isub (pc := 22) dD_follow_22 ?_
          rw [nI_pred]
          refine tv_putI (ty := .int) (pc := 23) 14 tyD_ tb_56 (by rfl) uwD_ (by decide) wm_676 okD_ nmD_ (by rfl) (by decide +kernel) (by rfl) (by rfl) (by rfl) dD_follow_23 ?_
          refine tv_aload_n (pc := 26) dD_follow_26 (by rfl) ?_
          refine tv_getR (pc := 27) 13 tb_56 (by rfl) uwD_ (by decide) wm_675 (by rfl) dD_follow_27 ?_
          refine tv_aload_n (pc := 30) dD_follow_30 (by rfl) ?_
          refine tv_getI (pc := 31) 14 tb_56 (by rfl) uwD_ (by decide) wm_676 (by rfl) dD_follow_31 ?_
          rw [tc_up_self]
          refine tv_iald (pc := 34) tb_67 (by assumption) dD_follow_34 ?_
          rw [e67]
          refine tv_istore3 (pc := 35) dD_follow_35 (by rfl) ?_
          refine tv_iload_n (pc := 36) dD_follow_36 (by rfl) ?_
          refine tv_bipush (v := 17) (pc := 37) dD_follow_37 (by decide) ?_
          refine tv_icmp_lt (pc := 39) 46 dD_follow_39 (by decide) (fun _ => ?_) (fun h => absurd (nI_lt (b := 17) (by omega) (by decide)) h)
          refine tv_iconst (v := 0) (pc := 46) dD_follow_46 (by decide) ?_
          refine tv_istore4 (pc := 47) dD_follow_47 (by rfl) ?_
          refine tv_iload (pc := 49) dD_follow_49 (by rfl) ?_
          refine tv_if_eq (pc := 51) 61 dD_follow_51 (by decide) (fun _ => ?_) (fun h => absurd (by decide) h)
          refine tv_iload_n (pc := 61) dD_follow_61 (by rfl) ?_
          refine tv_istore5 (pc := 62) dD_follow_62 (by rfl) ?_
          exact r64
  have hJ0 := df_start (st := (fun x => x = 0)) (suc := (fl_suc n (pm u 0) (pm u 16) a b)) (ok := (fun _ => True)) (u := u)
  obtain ⟨k', j1, m1, n1, z1⟩ := df_meet (x := 0) hJ0 (by omega) (df_R_st rfl)
  have hI0 := df_close j1 trivial (fun y hy => absurd hy.1 (by unfold fl_p; rw [if_pos (by omega)]; omega)) (fun y hy => by rw [hy]; exact m1)
  refine tv_aload_n (pc := 0) dD_follow_0 (by rfl) ?_
  refine tv_callVv (pc := 1) [] tb_56 (by rfl) (c_D_forget l G u) (kVD_forget wm_791 ⟨by decide, by decide⟩) (by rfl) (Nat.le_of_ble_eq_true rfl) dD_follow_1 ⟨by decide, by decide⟩ ?_
  refine tv_aload_n (pc := 4) dD_follow_4 (by rfl) ?_
  refine tv_iconst (v := 0) (pc := 5) dD_follow_5 (by decide) ?_
  refine tv_callVv (pc := 6) [_] tb_56 (by rfl) (c_D_meet l G _ (x := 0) (k := 0) (by omega) hJ0.1 (fun _ => by omega)) (kVD_meet wm_795 ⟨by decide, by decide⟩) (by rfl) (Nat.le_of_ble_eq_true rfl) dD_follow_6 ⟨by decide, by decide⟩ ?_
  exact loop _ k' _ _ _ _ _ _ (df_F_forget.tr df_F_meet) hI0 (Nat.lt_succ_self _)
