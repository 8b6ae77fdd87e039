/-! programs that agree on their lines -/
def ag (n : Nat) (P Q : tp_P) : Prop := ∀ j i, j < 4 → i < n → P j i = Q j i
theorem ag.sy {n : Nat} {P Q : tp_P} (h : ag n P Q) : ag n Q P := fun j i hj hi => (h j i hj hi).symm
theorem ag.tr {n : Nat} {P Q R : tp_P} (h : ag n P Q) (h2 : ag n Q R) : ag n P R := fun j i hj hi => (h j i hj hi).trans (h2 j i hj hi)
theorem ag_tg {n : Nat} {P Q : tp_P} (h : ag n P Q) {i : Nat} (hi : i < n) : tp_tg n P i = tp_tg n Q i := by unfold tp_tg; rw [h 0 i (by decide) hi, h 2 i (by decide) hi]
theorem ag_nx {n : Nat} {P Q : tp_P} (h : ag n P Q) {i q : Nat} (hi : i < n) : tp_nx n P i q ↔ tp_nx n Q i q := by unfold tp_nx; rw [ag_tg h hi]
theorem ag_w {n : Nat} {P Q : tp_P} (h : ag n P Q) {i : Nat} (hi : i < n) : tp_w P i = tp_w Q i := by unfold tp_w; rw [h 0 i (by decide) hi, h 1 i (by decide) hi]
theorem ag_rd {n : Nat} {P Q : tp_P} (h : ag n P Q) {i j : Nat} (hi : i < n) : tp_rd P i j ↔ tp_rd Q i j := by unfold tp_rd; rw [h 0 i (by decide) hi]
theorem ag_line {n : Nat} {P Q : tp_P} (h : ag n P Q) {i : Nat} (hi : i < n) (hl : tp_line Q i) : tp_line P i := by
  unfold tp_line at hl ⊢
  rw [h 0 i (by decide) hi, h 1 i (by decide) hi, h 2 i (by decide) hi, h 3 i (by decide) hi]; exact hl
theorem ag_cs {n : Nat} {P Q : tp_P} (h : ag n P Q) {S : Nat → Nat → Nat → Prop} (hS : tp_cs n P S) : tp_cs n Q S := by
  refine ⟨hS.1, fun i q hi hq s u hs => ?_⟩
  have := hS.2 i q hi ((ag_nx h hi).mpr hq) s u hs
  unfold tp_cb at this ⊢
  rw [h 0 i (by decide) hi, h 1 i (by decide) hi, h 2 i (by decide) hi, ag_w h hi] at this
  exact this
theorem ag_c {n : Nat} {P Q : tp_P} (h : ag n P Q) {q s u : Nat} : tp_c n P q s u ↔ tp_c n Q q s u := ⟨fun ⟨S, hS, z⟩ => ⟨S, ag_cs h hS, z⟩, fun ⟨S, hS, z⟩ => ⟨S, ag_cs h.sy hS, z⟩⟩
theorem ag_q {n : Nat} {P Q : tp_P} (h : ag n P Q) {j i : Nat} (hj : j < 4) (hi : i < n) : tp_q n P j i ↔ tp_q n Q j i := by
  unfold tp_q
  rw [ag_rd h hi, h j i hj hi]
  exact and_congr_right fun _ => ⟨fun ⟨u, z⟩ => ⟨u, (ag_c h).mp z⟩, fun ⟨u, z⟩ => ⟨u, (ag_c h).mpr z⟩⟩
theorem ag_p1 {n : Nat} {P Q : tp_P} (h : ag n P Q) {j i : Nat} (hj : j < 4) (hi : i < n) : tp_p1 n P j i = tp_p1 n Q j i := by
  by_cases z : tp_q n P j i
  · obtain ⟨h1, u, h2⟩ := z
    rw [tp_p1_q (by omega) h1 h2, tp_p1_q (u := u) (by omega) ((ag_rd h hi).mp h1) (by rw [← h j i hj hi]; exact (ag_c h).mp h2)]
  · rw [tp_p1_nq z, tp_p1_nq (fun w => z ((ag_q h hj hi).mpr w)), h j i hj hi]
theorem ag_pass {n : Nat} {P Q : tp_P} (h : ag n P Q) : tp_pass n P = tp_pass n Q := by
  funext j i
  unfold tp_pass
  by_cases hi : i < n ∧ j < 4
  · rw [if_pos hi, if_pos hi, h 0 i (by decide) hi.1, ag_p1 h (by decide) hi.1, ag_p1 h (by decide) hi.1, ag_p1 h hi.2 hi.1]
  · rw [if_neg hi, if_neg hi]
theorem ag_pch {n : Nat} {P Q : tp_P} (h : ag n P Q) (hc : tp_pch n P) : tp_pch n Q := by
  obtain ⟨i, hi, z⟩ := hc
  refine ⟨i, hi, ?_⟩
  rcases z with ⟨j, hj, z⟩ | z
  · exact Or.inl ⟨j, hj, (ag_q h hj hi).mp z⟩
  · rw [h 0 i (by decide) hi, ag_p1 h (by decide) hi, ag_p1 h (by decide) hi] at z; exact Or.inr z
theorem ag_lc {n : Nat} {P Q : tp_P} (h : ag n P Q) {S : Nat → Nat → Prop} (hS : tp_lc n Q S) : tp_lc n P S := by
  intro i r hi z
  refine hS i r hi ?_
  rcases z with ⟨j, h1, h2, h3, h4⟩ | ⟨h1, q, h2, h3⟩
  · refine Or.inl ⟨j, h1, (ag_rd h hi).mp h2, by rw [← h 0 i (by decide) hi]; exact h3, by rw [← h j i (by omega) hi]; exact h4⟩
  · exact Or.inr ⟨by rw [← ag_w h hi]; exact h1, q, (ag_nx h hi).mp h2, h3⟩
theorem ag_l {n : Nat} {P Q : tp_P} (h : ag n P Q) {q r : Nat} : tp_l n P q r ↔ tp_l n Q q r := ⟨fun z S hS => z S (ag_lc h hS), fun z S hS => z S (ag_lc h.sy hS)⟩
theorem ag_dead {n : Nat} {P Q : tp_P} (h : ag n P Q) {i : Nat} (hi : i < n) : tp_dead n P i ↔ tp_dead n Q i := by
  have one : ∀ {P Q : tp_P}, ag n P Q → tp_dead n P i → tp_dead n Q i := fun h ⟨r, h1, h2⟩ => ⟨r, by rw [← ag_w h hi]; exact h1, fun ⟨q, z1, z2⟩ => h2 ⟨q, (ag_nx h hi).mpr z1, (ag_l h).mpr z2⟩⟩
  exact ⟨one h, one h.sy⟩
theorem ag_leave {n : Nat} {P Q : tp_P} (h : ag n P Q) : tp_leave n P = tp_leave n Q := by
  funext j i
  by_cases hi : i < n ∧ j < 4
  · by_cases z : tp_dead n P i
    · rw [tp_leave_d hi.1 hi.2 z, tp_leave_d hi.1 hi.2 ((ag_dead h hi.1).mp z)]
    · rw [tp_leave_n hi.1 hi.2 z, tp_leave_n hi.1 hi.2 (fun w => z ((ag_dead h hi.1).mpr w)), h j i hi.2 hi.1]
  · unfold tp_leave; rw [if_neg hi, if_neg hi]
theorem ag_lch {n : Nat} {P Q : tp_P} (h : ag n P Q) (hc : tp_lch n P) : tp_lch n Q := by
  obtain ⟨i, hi, z⟩ := hc
  exact ⟨i, hi, (ag_dead h hi).mp z⟩
def nr (n : Nat) (P : tp_P) : tp_P := fun j i => if i < n ∧ j < 4 then P j i else 0
theorem nr_nrm {n : Nat} {P : tp_P} : tp_nrm n (nr n P) := fun j i h => if_neg h
theorem nr_ag {n : Nat} {P : tp_P} : ag n P (nr n P) := fun j i hj hi => (if_pos ⟨hi, hj⟩).symm
theorem ag_nr {n : Nat} {P Q : tp_P} (h : ag n P Q) : nr n P = nr n Q := by
  funext j i
  unfold nr
  by_cases hi : i < n ∧ j < 4
  · rw [if_pos hi, if_pos hi, h j i hi.2 hi.1]
  · rw [if_neg hi, if_neg hi]
def sh_F (u v : tc_S) : Prop := (∀ q, q < 56 ∨ 68 ≤ q → v q = u q) ∧ (∀ j, j ≠ 14 → v 56 j = u 56 j) ∧ ∀ j i, j < 4 → i < 16 → v (57 + j) i = u (57 + j) i
theorem sh_F.rf {u : tc_S} : sh_F u u := ⟨fun _ _ => rfl, fun _ _ => rfl, fun _ _ _ _ => rfl⟩
theorem sh_F.tr {u v w : tc_S} (h : sh_F u v) (h2 : sh_F v w) : sh_F u w := ⟨fun q hq => (h2.1 q hq).trans (h.1 q hq), fun j hj => (h2.2.1 j hj).trans (h.2.1 j hj), fun j i h1 h3 => (h2.2.2 j i h1 h3).trans (h.2.2 j i h1 h3)⟩
theorem sh_pl {u v : tc_S} (h : pl_F u v) : sh_F u v := ⟨fun q hq => h.1 q (by omega), h.2⟩
theorem sh_rc {u v : tc_S} (h : rc_F u v) : sh_F u v := ⟨fun q hq => h.1 q (by omega) (by omega) (by omega) (by omega), h.2, fun j i hj _ => by rw [h.1 (57 + j) (by omega) (by omega) (by omega) (by omega)]⟩
theorem sh_ag {u v : tc_S} {n : Nat} (h : sh_F u v) (hn : n ≤ 16) : ag n (pm v 0) (pm u 0) := fun j i hj hi => by rw [pm_of hj, pm_of hj, Nat.zero_add]; exact h.2.2 j i hj (by omega)
/-- what the model has made of a program -/
def sh_R (n : Nat) (Q : tp_P) (k : Nat) (v : tc_S) : Prop :=
  k ≤ 784 ∧ ¬ tp_ch n (tp_it n Q k) ∧ (∀ j, j < k → tp_ch n (tp_it n Q j)) ∧ ag n (pm v 16) (tp_it n Q k) ∧ fc_R n (pm v 0) (pm v 16) (v 68) (v 69) ∧ ∀ x, x ≤ n → v 65 x = 1
def sh_E (u v : tc_S) : Prop := (∀ q, q < 56 → v q = u q) ∧ v 76 = u 76 ∧ (∀ j i, j < 4 → i < 16 → v (57 + j) i = u (57 + j) i) ∧ v 56 0 = 0 ∧ v 56 1 = u 56 1 ∧ v 56 6 = 1 ∧ v 56 19 = 0 ∧ v 56 20 = 0 ∧ v 56 24 = 0 ∧ (∀ r, r < 12 → v 72 r = 0) ∧ ∀ r, r < 3 → v 74 r = 0
set_option maxRecDepth 100000 in
set_option maxHeartbeats 4000000 in
theorem c_D_shorten (l : Launch) (G : tc_G) (u : tc_S) {n : Nat} (hs : u 56 1 = nI n) (hn : n ≤ 16) (hP : ∀ i, i < n → tp_line (pm u 0) i) (hne : ∀ i, i < n → ¬ pm u 0 0 i = -1) : tc_C tcx G l yD_shorten wD_shorten r0D_shorten 0 0 [.ref (tc_ad G 56)] u (tc_KI (fun r0 v => ∃ k, r0 = nI k ∧ sh_R n (nr n (pm u 0)) k v ∧ sh_E u v)) := by
  refine tw_ofV (own := "TracedCodeModel") [some (.ref (tc_ad G 56)), none, none, none, none] (by decide +kernel) rfl (Nat.le_of_ble_eq_true rfl) (by rfl) (fun p e s m args below meth c => ?_)
  have hs1 : (tc_up u 56 0 0) 56 1 = nI n := by rw [tc_up_at (by decide)]; exact hs
  have p1 : pm (tc_up u 56 0 0) 0 = pm u 0 := by
    funext j i; unfold pm
    by_cases hj : j < 4
    · rw [if_pos hj, if_pos hj, tc_up_ne (by omega)]
    · rw [if_neg hj, if_neg hj]
  have hQl : ∀ i, i < n → tp_line (nr n (pm u 0)) i := fun i hi => ag_line nr_ag.sy hi (hP i hi)
  have bd := tp_m_bd (nr n (pm u 0)) n hn
  have loop : ∀ (M k : Nat) (v : tc_S) (g0 : Int32) (z3 z4 : Option Value), k + M = 785 → sh_F (tc_up u 56 0 0) v → (∀ x, x ≤ n → v 65 x = 1) → ag n (pm v 16) (tp_it n (nr n (pm u 0)) k) → (∀ j, j < k → tp_ch n (tp_it n (nr n (pm u 0)) j)) → (g0 = 0 → ¬ tp_ch n (tp_it n (nr n (pm u 0)) k)) → tc_V tcx G p l e r0D_shorten s m args below meth c bD_shorten 5 tw "TracedCodeModel" (some .int) [] (MQ below (tc_Qc tcx G (tc_KI (fun r0 v => ∃ k, r0 = nI k ∧ sh_R n (nr n (pm u 0)) k v ∧ sh_E u v)) s.heap.size) args s 0 0 (tc_A tcx G s.heap.size)) 0 0 v 89 [some (.ref (tc_ad G 56)), some (.int (nI k)), some (.int g0), z3, z4] [] := by
    intro M
    induction M with
    | zero =>
      intro k v g0 z3 z4 hk _ _ _ hch _
      have := tp_it_m hQl k hch
      omega
    | succ M ih =>
      intro k v g0 z3 z4 hk hF hre hag hch hg
      have hm := tp_it_m hQl k hch
      have hv1 : v 56 1 = nI n := by rw [hF.2.1 1 (by decide)]; exact hs1
      have hag0 : ag n (pm v 0) (pm u 0) := by have := sh_ag hF hn; rw [p1] at this; exact this
      have hPv : ∀ i, i < n → tp_line (pm v 0) i := fun i hi => ag_line hag0 hi (hP i hi)
      have hP1v : ∀ i, i < n → tp_line (pm v 16) i := fun i hi => ag_line hag hi (tp_it_line hQl k i hi)
      have htv : ∀ i, i < n → tp_tg n (pm v 16) i = tp_tg n (pm v 0) i := fun i hi => by rw [ag_tg hag hi, tp_it_tg hi k, ← ag_tg nr_ag hi, ← ag_tg hag0 hi]
      have hrev : ∀ i, i < n → v 65 i = 1 := fun i hi => hre i (by omega)
      have exit0 : ∀ (v : tc_S) (r0 r1 : Int32), ¬ tp_ch n (tp_it n (nr n (pm u 0)) k) → sh_F (tc_up u 56 0 0) v → (∀ x, x ≤ n → v 65 x = 1) → ag n (pm v 16) (tp_it n (nr n (pm u 0)) k) → tc_V tcx G p l e r0D_shorten s m args below meth c bD_shorten 5 tw "TracedCodeModel" (some .int) [] (MQ below (tc_Qc tcx G (tc_KI (fun r0 v => ∃ k, r0 = nI k ∧ sh_R n (nr n (pm u 0)) k v ∧ sh_E u v)) s.heap.size) args s 0 0 (tc_A tcx G s.heap.size)) 0 0 v 89 [some (.ref (tc_ad G 56)), some (.int (nI k)), some (.int 0), some (.int r0), some (.int r1)] [] := by
        intro v r0 r1 hnc hF hre hag
        have hv1 : v 56 1 = nI n := by rw [hF.2.1 1 (by decide)]; exact hs1
        have hag0 : ag n (pm v 0) (pm u 0) := by have := sh_ag hF hn; rw [p1] at this; exact this
        have hPv : ∀ i, i < n → tp_line (pm v 0) i := fun i hi => ag_line hag0 hi (hP i hi)
        have hP1v : ∀ i, i < n → tp_line (pm v 16) i := fun i hi => ag_line hag hi (tp_it_line hQl k i hi)
        have hrev : ∀ i, i < n → v 65 i = 1 := fun i hi => hre i (by omega)
        have fcc := c_D_findCarriers l G v hv1 hn hPv (fun i hi => by rw [hag0 0 i (by decide) hi]; exact hne i hi) hP1v hrev
        refine tv_iload_n (pc := 89) dD_shorten_89 (by rfl) ?_
        refine tv_if_eq (pc := 90) 134 dD_shorten_90 (by decide) (fun _ => ?_) (fun h => absurd rfl h)
        refine tv_aload_n (pc := 134) dD_shorten_134 (by rfl) ?_
        refine tv_callVV (pc := 135) [] tb_56 (by rfl) fcc (kVD_findCarriers wm_835 ⟨by decide, by decide⟩) (by rfl) (Nat.le_of_ble_eq_true rfl) dD_shorten_135 ⟨by decide, by decide⟩ (fun w hw => ?_)
        refine tv_aload_n (pc := 138) dD_shorten_138 (by rfl) ?_
        refine tv_iconst (v := 1) (pc := 139) dD_shorten_139 (by decide) ?_
        refine tv_putI (ty := .boolean) (pc := 140) 6 tyD_ tb_56 (by rfl) uwD_ (by decide) wm_668 okD_ nmD_ (by rfl) (by decide +kernel) (by rfl) (by rfl) (by rfl) dD_shorten_140 ?_
        refine tv_aload_n (pc := 143) dD_shorten_143 (by rfl) ?_
        refine tv_callVv (pc := 144) [] tb_56 (by rfl) (c_D_begin l G _) (kVD_begin wm_849 ⟨by decide, by decide⟩) (by rfl) (Nat.le_of_ble_eq_true rfl) dD_shorten_144 ⟨by decide, by decide⟩ ?_
        refine tv_iload_n (pc := 147) dD_shorten_147 (by rfl) ?_
        exact tv_iret (pc := 148) dD_shorten_148 rfl (Nat.le_refl _) (Nat.le_refl _) (by
          obtain ⟨hwF, hwR⟩ := hw
          refine ⟨_, rfl, k, rfl, ?_, ?_⟩
          · have o16 : ∀ o, pm (bg_ (tc_up w 56 6 1)) o = pm v o := fun o => by
              funext j i; unfold pm
              by_cases hj : j < 4
              · rw [if_pos hj, if_pos hj]; unfold bg_; rw [tc_row_ne (by omega), tc_row_ne (by omega), tc_up_ne (by omega), tc_up_ne (by omega), tc_up_ne (by omega), tc_up_ne (by omega), hwF (57 + j) (by omega)]
              · rw [if_neg hj, if_neg hj]
            have oo : ∀ q, q ≠ 56 → q ≠ 72 → q ≠ 74 → bg_ (tc_up w 56 6 1) q = w q := fun q h1 h2 h3 => by unfold bg_; rw [tc_row_ne h3, tc_row_ne h2, tc_up_ne h1, tc_up_ne h1, tc_up_ne h1, tc_up_ne h1]
            refine ⟨by omega, hnc, hch, by rw [o16]; exact hag, by rw [o16, o16, oo 68 (by decide) (by decide) (by decide), oo 69 (by decide) (by decide) (by decide)]; exact hwR, fun x hx => by rw [oo 65 (by decide) (by decide) (by decide), hwF 65 (by omega)]; exact hre x hx⟩
          · have oo : ∀ q, q ≠ 56 → q ≠ 72 → q ≠ 74 → bg_ (tc_up w 56 6 1) q = w q := fun q h1 h2 h3 => by unfold bg_; rw [tc_row_ne h3, tc_row_ne h2, tc_up_ne h1, tc_up_ne h1, tc_up_ne h1, tc_up_ne h1]
            have o56 : ∀ j, bg_ (tc_up w 56 6 1) 56 j = if j = 24 then 0 else if j = 20 then 0 else if j = 19 then 0 else if j = 6 then 1 else v 56 j := fun j => by
              unfold bg_; rw [tc_row_ne (by decide), tc_row_ne (by decide), tc_up_v, if_pos rfl, tc_up_v, if_pos rfl, tc_up_v, if_pos rfl, tc_up_v, if_pos rfl, hwF 56 (by omega)]
            refine ⟨fun q hq => ?_, ?_, fun j i hj hi => ?_, ?_, ?_, ?_, ?_, ?_, ?_, fun r hr => ?_, fun r hr => ?_⟩
            · rw [oo q (by omega) (by omega) (by omega), hwF q (by omega), hF.1 q (by omega), tc_up_ne (by omega)]
            · rw [oo 76 (by decide) (by decide) (by decide), hwF 76 (by omega), hF.1 76 (by omega), tc_up_ne (by decide)]
            · rw [oo (57 + j) (by omega) (by omega) (by omega), hwF (57 + j) (by omega), hF.2.2 j i hj hi, tc_up_ne (by omega)]
            · rw [o56]; simp only [Nat.reduceEqDiff, reduceIte]; rw [hF.2.1 0 (by decide), tc_up_self]
            · rw [o56]; simp only [Nat.reduceEqDiff, reduceIte]; rw [hF.2.1 1 (by decide), tc_up_at (by decide)]
            · rw [o56]; rfl
            · rw [o56]; rfl
            · rw [o56]; rfl
            · rw [o56]; rfl
            · unfold bg_; rw [tc_row_ne (by decide), tc_row_in hr]
            · unfold bg_; rw [tc_row_in hr])
      by_cases hg0 : g0 = 0
      · have hnc := hg hg0
        have fcc := c_D_findCarriers l G v hv1 hn hPv (fun i hi => by rw [hag0 0 i (by decide) hi]; exact hne i hi) hP1v hrev
        refine tv_iload_n (pc := 89) dD_shorten_89 (by rfl) ?_
        refine tv_if_eq (pc := 90) 134 dD_shorten_90 (by decide) (fun _ => ?_) (fun h => absurd hg0 h)
        refine tv_aload_n (pc := 134) dD_shorten_134 (by rfl) ?_
        refine tv_callVV (pc := 135) [] tb_56 (by rfl) fcc (kVD_findCarriers wm_835 ⟨by decide, by decide⟩) (by rfl) (Nat.le_of_ble_eq_true rfl) dD_shorten_135 ⟨by decide, by decide⟩ (fun w hw => ?_)
        refine tv_aload_n (pc := 138) dD_shorten_138 (by rfl) ?_
        refine tv_iconst (v := 1) (pc := 139) dD_shorten_139 (by decide) ?_
        refine tv_putI (ty := .boolean) (pc := 140) 6 tyD_ tb_56 (by rfl) uwD_ (by decide) wm_668 okD_ nmD_ (by rfl) (by decide +kernel) (by rfl) (by rfl) (by rfl) dD_shorten_140 ?_
        refine tv_aload_n (pc := 143) dD_shorten_143 (by rfl) ?_
        refine tv_callVv (pc := 144) [] tb_56 (by rfl) (c_D_begin l G _) (kVD_begin wm_849 ⟨by decide, by decide⟩) (by rfl) (Nat.le_of_ble_eq_true rfl) dD_shorten_144 ⟨by decide, by decide⟩ ?_
        refine tv_iload_n (pc := 147) dD_shorten_147 (by rfl) ?_
        exact tv_iret (pc := 148) dD_shorten_148 rfl (Nat.le_refl _) (Nat.le_refl _) (by
          obtain ⟨hwF, hwR⟩ := hw
          refine ⟨_, rfl, k, rfl, ?_, ?_⟩
          · have o16 : ∀ o, pm (bg_ (tc_up w 56 6 1)) o = pm v o := fun o => by
              funext j i; unfold pm
              by_cases hj : j < 4
              · rw [if_pos hj, if_pos hj]; unfold bg_; rw [tc_row_ne (by omega), tc_row_ne (by omega), tc_up_ne (by omega), tc_up_ne (by omega), tc_up_ne (by omega), tc_up_ne (by omega), hwF (57 + j) (by omega)]
              · rw [if_neg hj, if_neg hj]
            have oo : ∀ q, q ≠ 56 → q ≠ 72 → q ≠ 74 → bg_ (tc_up w 56 6 1) q = w q := fun q h1 h2 h3 => by unfold bg_; rw [tc_row_ne h3, tc_row_ne h2, tc_up_ne h1, tc_up_ne h1, tc_up_ne h1, tc_up_ne h1]
            refine ⟨by omega, hnc, hch, by rw [o16]; exact hag, by rw [o16, o16, oo 68 (by decide) (by decide) (by decide), oo 69 (by decide) (by decide) (by decide)]; exact hwR, fun x hx => by rw [oo 65 (by decide) (by decide) (by decide), hwF 65 (by omega)]; exact hre x hx⟩
          · have oo : ∀ q, q ≠ 56 → q ≠ 72 → q ≠ 74 → bg_ (tc_up w 56 6 1) q = w q := fun q h1 h2 h3 => by unfold bg_; rw [tc_row_ne h3, tc_row_ne h2, tc_up_ne h1, tc_up_ne h1, tc_up_ne h1, tc_up_ne h1]
            have o56 : ∀ j, bg_ (tc_up w 56 6 1) 56 j = if j = 24 then 0 else if j = 20 then 0 else if j = 19 then 0 else if j = 6 then 1 else v 56 j := fun j => by
              unfold bg_; rw [tc_row_ne (by decide), tc_row_ne (by decide), tc_up_v, if_pos rfl, tc_up_v, if_pos rfl, tc_up_v, if_pos rfl, tc_up_v, if_pos rfl, hwF 56 (by omega)]
            refine ⟨fun q hq => ?_, ?_, fun j i hj hi => ?_, ?_, ?_, ?_, ?_, ?_, ?_, fun r hr => ?_, fun r hr => ?_⟩
            · rw [oo q (by omega) (by omega) (by omega), hwF q (by omega), hF.1 q (by omega), tc_up_ne (by omega)]
            · rw [oo 76 (by decide) (by decide) (by decide), hwF 76 (by omega), hF.1 76 (by omega), tc_up_ne (by decide)]
            · rw [oo (57 + j) (by omega) (by omega) (by omega), hwF (57 + j) (by omega), hF.2.2 j i hj hi, tc_up_ne (by omega)]
            · rw [o56]; simp only [Nat.reduceEqDiff, reduceIte]; rw [hF.2.1 0 (by decide), tc_up_self]
            · rw [o56]; simp only [Nat.reduceEqDiff, reduceIte]; rw [hF.2.1 1 (by decide), tc_up_at (by decide)]
            · rw [o56]; rfl
            · rw [o56]; rfl
            · rw [o56]; rfl
            · rw [o56]; rfl
            · unfold bg_; rw [tc_row_ne (by decide), tc_row_in hr]
            · unfold bg_; rw [tc_row_in hr])
      · have po := c_D_passOn l G v hv1 hn hPv hP1v htv hrev
        refine tv_iload_n (pc := 89) dD_shorten_89 (by rfl) ?_
        refine tv_if_eq (pc := 90) 134 dD_shorten_90 (by decide) (fun h => absurd h hg0) (fun _ => ?_)
        refine tv_aload_n (pc := 93) dD_shorten_93 (by rfl) ?_
        refine tv_callVI (pc := 94) [] tb_56 (by rfl) po (kVD_passOn wm_803 ⟨by decide, by decide⟩) (by rfl) (Nat.le_of_ble_eq_true rfl) dD_shorten_94 ⟨by decide, by decide⟩ (fun r0 w hw => ?_)
        obtain ⟨er1, hw1, hp1⟩ := hw
        have hagp : ag n (pm w 16) (tp_pass n (tp_it n (nr n (pm u 0)) k)) := fun j i hj hi => by rw [hp1 j i hj hi, ag_pass hag]
        have hwF := hF.tr (sh_pl (pl_ps hw1))
        have hw01 : w 56 1 = nI n := by rw [hwF.2.1 1 (by decide)]; exact hs1
        have hag0w : ag n (pm w 0) (pm u 0) := by have := sh_ag hwF hn; rw [p1] at this; exact this
        have hrew : ∀ x, x ≤ n → w 65 x = 1 := fun x hx => by rw [hw1.1 65 (by omega)]; exact hre x hx
        have lo := c_D_leaveOut l G w hw01 hn (fun i hi => ag_line hag0w hi (hP i hi)) (fun i hi => ag_line hagp hi (tp_line_pass (tp_it_line hQl k) hi)) (fun i hi => by rw [ag_tg hagp hi, tp_tg_pass hi, tp_it_tg hi k, ← ag_tg nr_ag hi, ← ag_tg hag0w hi]) (fun i hi => hrew i (by omega))
        refine tv_istore3 (pc := 97) dD_shorten_97 (by rfl) ?_
        refine tv_aload_n (pc := 98) dD_shorten_98 (by rfl) ?_
        refine tv_callVI (pc := 99) [] tb_56 (by rfl) lo (kVD_leaveOut wm_823 ⟨by decide, by decide⟩) (by rfl) (Nat.le_of_ble_eq_true rfl) dD_shorten_99 ⟨by decide, by decide⟩ (fun r1 w2 hw2 => ?_)
        obtain ⟨er2, hw2, hp2⟩ := hw2
        have hagl : ag n (pm w2 16) (tp_it n (nr n (pm u 0)) (k + 1)) := fun j i hj hi => by rw [hp2 j i hj hi, ag_leave hagp]; rfl
        have hw2F := hwF.tr (sh_pl hw2)
        have hre2 : ∀ x, x ≤ n → w2 65 x = 1 := fun x hx => by rw [hw2.1 65 (by omega)]; exact hrew x hx
        have go1 : tp_ch n (tp_it n (nr n (pm u 0)) k) → tc_V tcx G p l e r0D_shorten s m args below meth c bD_shorten 5 tw "TracedCodeModel" (some .int) [] (MQ below (tc_Qc tcx G (tc_KI (fun r0 v => ∃ k, r0 = nI k ∧ sh_R n (nr n (pm u 0)) k v ∧ sh_E u v)) s.heap.size) args s 0 0 (tc_A tcx G s.heap.size)) 0 0 w2 89 [some (.ref (tc_ad G 56)), some (.int (nI (k + 1))), some (.int 1), some (.int r0), some (.int r1)] [] := fun hc => ih (k + 1) w2 1 (some (.int r0)) (some (.int r1)) (by omega) hw2F hre2 hagl (fun j hj => by
          by_cases e : j = k
          · rw [e]; exact hc
          · exact hch j (by omega)) (fun z => absurd z (by decide))
        have go0 : ¬ tp_ch n (tp_it n (nr n (pm u 0)) k) → tc_V tcx G p l e r0D_shorten s m args below meth c bD_shorten 5 tw "TracedCodeModel" (some .int) [] (MQ below (tc_Qc tcx G (tc_KI (fun r0 v => ∃ k, r0 = nI k ∧ sh_R n (nr n (pm u 0)) k v ∧ sh_E u v)) s.heap.size) args s 0 0 (tc_A tcx G s.heap.size)) 0 0 w2 89 [some (.ref (tc_ad G 56)), some (.int (nI k)), some (.int 0), some (.int r0), some (.int r1)] [] := fun hc => by
          refine exit0 w2 r0 r1 hc hw2F hre2 ?_
          have := tp_same (tp_it_nrm nr_nrm k) hc
          intro j i hj hi
          rw [hagl j i hj hi]
          exact congrFun (congrFun this j) i
        have cP : tp_pch n (pm v 16) ↔ tp_pch n (tp_it n (nr n (pm u 0)) k) := ⟨ag_pch hag, ag_pch hag.sy⟩
        have cL : tp_lch n (pm w 16) ↔ tp_lch n (tp_pass n (tp_it n (nr n (pm u 0)) k)) := ⟨ag_lch hagp, ag_lch hagp.sy⟩
        refine tv_istore4 (pc := 102) dD_shorten_102 (by rfl) ?_
        refine tv_iload_n (pc := 104) dD_shorten_104 (by rfl) ?_
        refine tv_if_ne (pc := 105) 113 dD_shorten_105 (by decide) (fun h105 => ?_) (fun h105 => ?_)
        · skip
          refine tv_iconst (v := 1) (pc := 113) dD_shorten_113 (by decide) ?_
          refine tv_goto (pc := 114) 118 dD_shorten_114 (by decide) ?_
          first
          | (have hx : ¬ r0 = 0 := (by assumption)
             rw [er1] at hx
             have hc : tp_ch n (tp_it n (nr n (pm u 0)) k) := Or.inl (cP.mp (tp_b_p hx))
             have ha := go1 hc
             rw [← nI_1] at ha)
          | (have hx : ¬ r1 = 0 := (by assumption)
             rw [er2] at hx
             have hc : tp_ch n (tp_it n (nr n (pm u 0)) k) := Or.inr (cL.mp (tp_b_p hx))
             have ha := go1 hc
             rw [← nI_1] at ha)
          | (have h0 : r0 = 0 := (by assumption)
             have h1 : r1 = 0 := (by assumption)
             rw [er1] at h0
             rw [er2] at h1
             have hc : ¬ tp_ch n (tp_it n (nr n (pm u 0)) k) := fun z => z.elim (fun z => tp_b_q h0 (cP.mpr z)) (fun z => tp_b_q h1 (cL.mpr z))
             have ha := go0 hc)
          refine tv_istore2 (pc := 118) dD_shorten_118 (by rfl) ?_
          refine tv_iload_n (pc := 119) dD_shorten_119 (by rfl) ?_
          refine tv_if_eq (pc := 120) 129 dD_shorten_120 (by decide) (fun h => absurd h (by decide)) (fun _ => ?_)
          refine tv_iload_n (pc := 123) dD_shorten_123 (by rfl) ?_
          refine tv_iconst (v := 1) (pc := 124) dD_shorten_124 (by decide) ?_
          refine tv_iadd (pc := 125) dD_shorten_125 ?_
          refine tv_goto (pc := 126) 130 dD_shorten_126 (by decide) ?_
          refine tv_istore1 (pc := 130) dD_shorten_130 (by rfl) ?_
          refine tv_goto (pc := 131) 89 dD_shorten_131 (by decide) ?_
          exact ha
        · skip
          refine tv_iload (pc := 108) dD_shorten_108 (by rfl) ?_
          refine tv_if_eq (pc := 110) 117 dD_shorten_110 (by decide) (fun h110 => ?_) (fun h110 => ?_)
          · skip
            refine tv_iconst (v := 0) (pc := 117) dD_shorten_117 (by decide) ?_
            first
            | (have hx : ¬ r0 = 0 := (by assumption)
               rw [er1] at hx
               have hc : tp_ch n (tp_it n (nr n (pm u 0)) k) := Or.inl (cP.mp (tp_b_p hx))
               have ha := go1 hc
               rw [← nI_1] at ha)
            | (have hx : ¬ r1 = 0 := (by assumption)
               rw [er2] at hx
               have hc : tp_ch n (tp_it n (nr n (pm u 0)) k) := Or.inr (cL.mp (tp_b_p hx))
               have ha := go1 hc
               rw [← nI_1] at ha)
            | (have h0 : r0 = 0 := (by assumption)
               have h1 : r1 = 0 := (by assumption)
               rw [er1] at h0
               rw [er2] at h1
               have hc : ¬ tp_ch n (tp_it n (nr n (pm u 0)) k) := fun z => z.elim (fun z => tp_b_q h0 (cP.mpr z)) (fun z => tp_b_q h1 (cL.mpr z))
               have ha := go0 hc)
            refine tv_istore2 (pc := 118) dD_shorten_118 (by rfl) ?_
            refine tv_iload_n (pc := 119) dD_shorten_119 (by rfl) ?_
            refine tv_if_eq (pc := 120) 129 dD_shorten_120 (by decide) (fun _ => ?_) (fun h => absurd (by decide) h)
            refine tv_iload_n (pc := 129) dD_shorten_129 (by rfl) ?_
            refine tv_istore1 (pc := 130) dD_shorten_130 (by rfl) ?_
            refine tv_goto (pc := 131) 89 dD_shorten_131 (by decide) ?_
            exact ha
          · skip
            refine tv_iconst (v := 1) (pc := 113) dD_shorten_113 (by decide) ?_
            refine tv_goto (pc := 114) 118 dD_shorten_114 (by decide) ?_
            first
            | (have hx : ¬ r0 = 0 := (by assumption)
               rw [er1] at hx
               have hc : tp_ch n (tp_it n (nr n (pm u 0)) k) := Or.inl (cP.mp (tp_b_p hx))
               have ha := go1 hc
               rw [← nI_1] at ha)
            | (have hx : ¬ r1 = 0 := (by assumption)
               rw [er2] at hx
               have hc : tp_ch n (tp_it n (nr n (pm u 0)) k) := Or.inr (cL.mp (tp_b_p hx))
               have ha := go1 hc
               rw [← nI_1] at ha)
            | (have h0 : r0 = 0 := (by assumption)
               have h1 : r1 = 0 := (by assumption)
               rw [er1] at h0
               rw [er2] at h1
               have hc : ¬ tp_ch n (tp_it n (nr n (pm u 0)) k) := fun z => z.elim (fun z => tp_b_q h0 (cP.mpr z)) (fun z => tp_b_q h1 (cL.mpr z))
               have ha := go0 hc)
            refine tv_istore2 (pc := 118) dD_shorten_118 (by rfl) ?_
            refine tv_iload_n (pc := 119) dD_shorten_119 (by rfl) ?_
            refine tv_if_eq (pc := 120) 129 dD_shorten_120 (by decide) (fun h => absurd h (by decide)) (fun _ => ?_)
            refine tv_iload_n (pc := 123) dD_shorten_123 (by rfl) ?_
            refine tv_iconst (v := 1) (pc := 124) dD_shorten_124 (by decide) ?_
            refine tv_iadd (pc := 125) dD_shorten_125 ?_
            refine tv_goto (pc := 126) 130 dD_shorten_126 (by decide) ?_
            refine tv_istore1 (pc := 130) dD_shorten_130 (by rfl) ?_
            refine tv_goto (pc := 131) 89 dD_shorten_131 (by decide) ?_
            exact ha
  have first : ∀ (d q : Nat) (v : tc_S), q + d = n → sh_F (tc_up u 56 0 0) v → (∀ j i, j < 4 → i < q → pm v 16 j i = pm u 0 j i) → tc_V tcx G p l e r0D_shorten s m args below meth c bD_shorten 5 tw "TracedCodeModel" (some .int) [] (MQ below (tc_Qc tcx G (tc_KI (fun r0 v => ∃ k, r0 = nI k ∧ sh_R n (nr n (pm u 0)) k v ∧ sh_E u v)) s.heap.size) args s 0 0 (tc_A tcx G s.heap.size)) 0 0 v 7 [some (.ref (tc_ad G 56)), some (.int (nI q)), none, none, none] [] := by
    intro d
    induction d with
    | zero =>
      intro q v hd hF hA
      have hq : q = n := by omega
      subst hq
      have hv1 : v 56 1 = nI q := by rw [hF.2.1 1 (by decide)]; exact hs1
      have hag0 : ag q (pm v 0) (pm u 0) := by have := sh_ag hF hn; rw [p1] at this; exact this
      have rc := c_D_reach l G v hv1 hn (fun i hi => ag_line hag0 hi (hP i hi))
      refine tv_iload_n (pc := 7) dD_shorten_7 (by rfl) ?_
      refine tv_aload_n (pc := 8) dD_shorten_8 (by rfl) ?_
      refine tv_getI (pc := 9) 1 tb_56 (by rfl) uwD_ (by decide) wm_663 (by rfl) dD_shorten_9 ?_
      refine tv_icmp_ge (pc := 12) 81 dD_shorten_12 (by decide) (fun _ => ?_) (fun h => absurd (by rw [hv1]; exact Int32.le_refl _) h)
      refine tv_aload_n (pc := 81) dD_shorten_81 (by rfl) ?_
      refine tv_callVV (pc := 82) [] tb_56 (by rfl) rc (kVD_reach wm_787 ⟨by decide, by decide⟩) (by rfl) (Nat.le_of_ble_eq_true rfl) dD_shorten_82 ⟨by decide, by decide⟩ (fun w hw => ?_)
      refine tv_iconst (v := 0) (pc := 85) dD_shorten_85 (by decide) ?_
      refine tv_istore1 (pc := 86) dD_shorten_86 (by rfl) ?_
      refine tv_iconst (v := 1) (pc := 87) dD_shorten_87 (by decide) ?_
      refine tv_istore2 (pc := 88) dD_shorten_88 (by rfl) ?_
      refine loop 785 0 w 1 none none (by omega) (hF.tr (sh_rc hw.1)) hw.2 ?_ (fun j hj => absurd hj (by omega)) (fun z => absurd z (by decide))
      intro j i hj hi
      rw [pm_of hj, hw.1.1 (57 + j) (by omega) (by omega) (by omega) (by omega), ← pm_of (u := v) (o := 16) hj, hA j i hj hi]
      exact nr_ag j i hj hi
    | succ d ih =>
      intro q v hd hF hA
      have hqn : q < n := by omega
      have hv1 : v 56 1 = nI n := by rw [hF.2.1 1 (by decide)]; exact hs1
      have i32 : tc_ix (16 + nI q) 32 (16 + q) := ix16 (by omega)
      have j32 : tc_ix (nI q) 32 q := ix32 (by omega)
      have old : ∀ j, j < 4 → v (57 + j) q = pm u 0 j q := fun j hj => by rw [hF.2.2 j q hj (by omega), tc_up_ne (by omega), pm_of hj, Nat.zero_add]
      have z57 : v 57 q = pm u 0 0 q := old 0 (by decide)
      have z58 : (tc_up v 57 (16 + q) (pm u 0 0 q)) 58 q = pm u 0 1 q := by rw [tc_up_ne (by decide)]; exact old 1 (by decide)
      have z59 : (tc_up (tc_up v 57 (16 + q) (pm u 0 0 q)) 58 (16 + q) (pm u 0 1 q)) 59 q = pm u 0 2 q := by rw [tc_up_ne (by decide), tc_up_ne (by decide)]; exact old 2 (by decide)
      have z60 : (tc_up (tc_up (tc_up v 57 (16 + q) (pm u 0 0 q)) 58 (16 + q) (pm u 0 1 q)) 59 (16 + q) (pm u 0 2 q)) 60 q = pm u 0 3 q := by rw [tc_up_ne (by decide), tc_up_ne (by decide), tc_up_ne (by decide)]; exact old 3 (by decide)
      have up : ∀ (w : tc_S) (j : Nat) (x : Int32), j < 4 → sh_F (tc_up u 56 0 0) w → sh_F (tc_up u 56 0 0) (tc_up w (57 + j) (16 + q) x) := fun w j x hj h => by
        refine ⟨fun q' hq' => (tc_up_ne (by omega)).trans (h.1 q' hq'), fun j' hj' => by rw [tc_up_ne (by omega)]; exact h.2.1 j' hj', fun j' i' h1 h2 => ?_⟩
        rw [tc_up_v]
        by_cases e : 57 + j' = 57 + j
        · rw [if_pos e, if_neg (by omega), ← e]; exact h.2.2 j' i' h1 h2
        · rw [if_neg e]; exact h.2.2 j' i' h1 h2
      have ha := ih (q + 1) (tc_up (tc_up (tc_up (tc_up v 57 (16 + q) (pm u 0 0 q)) 58 (16 + q) (pm u 0 1 q)) 59 (16 + q) (pm u 0 2 q)) 60 (16 + q) (pm u 0 3 q)) (by omega) (up _ 3 _ (by decide) (up _ 2 _ (by decide) (up _ 1 _ (by decide) (up _ 0 _ (by decide) hF)))) (fun j i hj hi => by
        rw [pm_up (j0 := 3) (by decide) hj, pm_up (j0 := 2) (by decide) hj, pm_up (j0 := 1) (by decide) hj, pm_up (j0 := 0) (by decide) hj]
        by_cases e : i = q
        · have : j = 0 ∨ j = 1 ∨ j = 2 ∨ j = 3 := by omega
          rcases this with rfl | rfl | rfl | rfl <;> simp [e]
        · rw [if_neg (fun z => e z.2), if_neg (fun z => e z.2), if_neg (fun z => e z.2), if_neg (fun z => e z.2)]
          exact hA j i hj (by omega))
      rw [← nI_1] at ha
      refine tv_iload_n (pc := 7) dD_shorten_7 (by rfl) ?_
      refine tv_aload_n (pc := 8) dD_shorten_8 (by rfl) ?_
      refine tv_getI (pc := 9) 1 tb_56 (by rfl) uwD_ (by decide) wm_663 (by rfl) dD_shorten_9 ?_
      refine tv_icmp_ge (pc := 12) 81 dD_shorten_12 (by decide) (fun h => absurd h (by rw [hv1]; exact nI_ge hqn (by omega))) (fun _ => ?_)
      refine tv_aload_n (pc := 15) dD_shorten_15 (by rfl) ?_
      refine tv_getR (pc := 16) 2 tb_56 (by rfl) uwD_ (by decide) wm_664 (by rfl) dD_shorten_16 ?_
      refine tv_bipush (v := 16) (pc := 19) dD_shorten_19 (by decide) ?_
      refine tv_iload_n (pc := 21) dD_shorten_21 (by rfl) ?_
      refine tv_iadd (pc := 22) dD_shorten_22 ?_
      refine tv_aload_n (pc := 23) dD_shorten_23 (by rfl) ?_
      refine tv_getR (pc := 24) 2 tb_56 (by rfl) uwD_ (by decide) wm_664 (by rfl) dD_shorten_24 ?_
      refine tv_iload_n (pc := 27) dD_shorten_27 (by rfl) ?_
      refine tv_iald (pc := 28) tb_57 (by assumption) dD_shorten_28 ?_
      rw [z57]
      refine tv_iast (pc := 29) tb_57 (by assumption) dD_shorten_29 ?_
      refine tv_aload_n (pc := 30) dD_shorten_30 (by rfl) ?_
      refine tv_getR (pc := 31) 3 tb_56 (by rfl) uwD_ (by decide) wm_665 (by rfl) dD_shorten_31 ?_
      refine tv_bipush (v := 16) (pc := 34) dD_shorten_34 (by decide) ?_
      refine tv_iload_n (pc := 36) dD_shorten_36 (by rfl) ?_
      refine tv_iadd (pc := 37) dD_shorten_37 ?_
      refine tv_aload_n (pc := 38) dD_shorten_38 (by rfl) ?_
      refine tv_getR (pc := 39) 3 tb_56 (by rfl) uwD_ (by decide) wm_665 (by rfl) dD_shorten_39 ?_
      refine tv_iload_n (pc := 42) dD_shorten_42 (by rfl) ?_
      refine tv_iald (pc := 43) tb_58 (by assumption) dD_shorten_43 ?_
      rw [z58]
      refine tv_iast (pc := 44) tb_58 (by assumption) dD_shorten_44 ?_
      refine tv_aload_n (pc := 45) dD_shorten_45 (by rfl) ?_
      refine tv_getR (pc := 46) 4 tb_56 (by rfl) uwD_ (by decide) wm_666 (by rfl) dD_shorten_46 ?_
      refine tv_bipush (v := 16) (pc := 49) dD_shorten_49 (by decide) ?_
      refine tv_iload_n (pc := 51) dD_shorten_51 (by rfl) ?_
      refine tv_iadd (pc := 52) dD_shorten_52 ?_
      refine tv_aload_n (pc := 53) dD_shorten_53 (by rfl) ?_
      refine tv_getR (pc := 54) 4 tb_56 (by rfl) uwD_ (by decide) wm_666 (by rfl) dD_shorten_54 ?_
      refine tv_iload_n (pc := 57) dD_shorten_57 (by rfl) ?_
      refine tv_iald (pc := 58) tb_59 (by assumption) dD_shorten_58 ?_
      rw [z59]
      refine tv_iast (pc := 59) tb_59 (by assumption) dD_shorten_59 ?_
      refine tv_aload_n (pc := 60) dD_shorten_60 (by rfl) ?_
      refine tv_getR (pc := 61) 5 tb_56 (by rfl) uwD_ (by decide) wm_667 (by rfl) dD_shorten_61 ?_
      refine tv_bipush (v := 16) (pc := 64) dD_shorten_64 (by decide) ?_
      refine tv_iload_n (pc := 66) dD_shorten_66 (by rfl) ?_
      refine tv_iadd (pc := 67) dD_shorten_67 ?_
      refine tv_aload_n (pc := 68) dD_shorten_68 (by rfl) ?_
      refine tv_getR (pc := 69) 5 tb_56 (by rfl) uwD_ (by decide) wm_667 (by rfl) dD_shorten_69 ?_
      refine tv_iload_n (pc := 72) dD_shorten_72 (by rfl) ?_
      refine tv_iald (pc := 73) tb_60 (by assumption) dD_shorten_73 ?_
      rw [z60]
      refine tv_iast (pc := 74) tb_60 (by assumption) dD_shorten_74 ?_
      refine tv_iinc1 (v := 1) (pc := 75) dD_shorten_75 (by decide) (by rfl) ?_
      refine tv_goto (pc := 78) 7 dD_shorten_78 (by decide) ?_
      exact ha
  refine tv_aload_n (pc := 0) dD_shorten_0 (by rfl) ?_
  refine tv_iconst (v := 0) (pc := 1) dD_shorten_1 (by decide) ?_
  refine tv_putI (ty := .int) (pc := 2) 0 tyD_ tb_56 (by rfl) uwD_ (by decide) wm_662 okD_ nmD_ (by rfl) (by decide +kernel) (by rfl) (by rfl) (by rfl) dD_shorten_2 ?_
  refine tv_iconst (v := 0) (pc := 5) dD_shorten_5 (by decide) ?_
  refine tv_istore1 (pc := 6) dD_shorten_6 (by rfl) ?_
  exact first n 0 _ (by omega) sh_F.rf (fun j i _ hi => absurd hi (by omega))
