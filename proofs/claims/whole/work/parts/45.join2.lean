/-! a step on both sides -/
def ln_r (P : tp_P) (i : Nat) (g : Nat → Int32) (r : Nat) : Int32 :=
  if P 0 i = 0 then (if r = tp_n (P 1 i) then P 2 i else g r)
  else if P 0 i = 1 then (if r = tp_n (P 1 i) then g (tp_n (P 2 i)) else g r)
  else if P 0 i = 2 then (if r = tp_n (P 1 i) then g (tp_n (P 2 i)) + g (tp_n (P 3 i)) else g r)
  else g r
theorem ln_c {P Q : tp_P} {i r : Nat} {g g' : Nat → Int32} (hl : tp_line P i) (h : ∀ j, j < 4 → Q j i = P j i) (hr : r < 6) (hg : ∀ r, r < 6 → g r = g' r) : ln_r P i g r = ln_r Q i g' r := by
  unfold ln_r
  rw [h 0 (by decide), h 1 (by decide), h 2 (by decide), h 3 (by decide), hg r hr]
  by_cases k0 : P 0 i = 0
  · rw [if_pos k0, if_pos k0]
  · rw [if_neg k0, if_neg k0]
    by_cases k1 : P 0 i = 1
    · rw [if_pos k1, if_pos k1, hg _ (tp_two hl (Or.inl k1))]
    · rw [if_neg k1, if_neg k1]
      by_cases k2 : P 0 i = 2
      · obtain ⟨a, ha, ea⟩ := hl.2.2.2.2.1 k2
        rw [if_pos k2, if_pos k2, hg _ (tp_two hl (Or.inr (Or.inl k2))), hg (tp_n (P 3 i)) (by rw [ea, show tp_n (nI a) = a from nI_clamp (by omega)]; exact ha)]
      · rw [if_neg k2, if_neg k2]
theorem sm_do_r {P : tp_P} {i k co ou r : Nat} {u : tc_S} (h1 : co ≠ k) (h2 : co ≠ ou) : sm_do P i k co ou u co r = ln_r P i (u co) r := by
  unfold sm_do ln_r sm_put
  by_cases k0 : P 0 i = 0
  · rw [if_pos k0, if_pos k0, tc_up_v, if_pos rfl]
  · rw [if_neg k0, if_neg k0]
    by_cases k1 : P 0 i = 1
    · rw [if_pos k1, if_pos k1, tc_up_v, if_pos rfl]
    · rw [if_neg k1, if_neg k1]
      by_cases k2 : P 0 i = 2
      · rw [if_pos k2, if_pos k2, tc_up_v, if_pos rfl]
      · rw [if_neg k2, if_neg k2]
        by_cases k3 : P 0 i = 3
        · rw [if_pos k3]
          split
          · rw [tc_up_ne h1, tc_up_ne h2]
          · rfl
        · rw [if_neg k3]
theorem sm_do_z {P : tp_P} {i k co ou q : Nat} {u : tc_S} (h0 : q ≠ k) (h1 : q ≠ co) (h2 : q ≠ ou) : sm_do P i k co ou u q = u q := by
  unfold sm_do sm_put
  split
  · exact tc_up_ne h1
  · split
    · exact tc_up_ne h1
    · split
      · exact tc_up_ne h1
      · split
        · split
          · rw [tc_up_ne h0, tc_up_ne h2]
          · rfl
        · rfl
theorem sm_do_3 {P : tp_P} {i k co ou c : Nat} {u : tc_S} (hc : u k 2 = nI c) (h200 : c < 200) (h1 : k ≠ co) (h2 : k ≠ ou) (h3 : ou ≠ co) : sm_do P i k co ou u k 2 = nI (if P 0 i = 3 then c + 1 else c) ∧ ∀ j, sm_do P i k co ou u ou j = if P 0 i = 3 ∧ j = c then u co (tp_n (P 1 i)) else u ou j := by
  unfold sm_do sm_put
  by_cases k0 : P 0 i = 0
  · have n3 : ¬ P 0 i = 3 := by rw [k0]; decide
    rw [if_pos k0, if_neg n3, tc_up_ne h1, hc]
    exact ⟨rfl, fun j => by rw [tc_up_ne h3, if_neg (fun q => n3 q.1)]⟩
  · rw [if_neg k0]
    by_cases k1 : P 0 i = 1
    · have n3 : ¬ P 0 i = 3 := by rw [k1]; decide
      rw [if_pos k1, if_neg n3, tc_up_ne h1, hc]
      exact ⟨rfl, fun j => by rw [tc_up_ne h3, if_neg (fun q => n3 q.1)]⟩
    · rw [if_neg k1]
      by_cases k2 : P 0 i = 2
      · have n3 : ¬ P 0 i = 3 := by rw [k2]; decide
        rw [if_pos k2, if_neg n3, tc_up_ne h1, hc]
        exact ⟨rfl, fun j => by rw [tc_up_ne h3, if_neg (fun q => n3 q.1)]⟩
      · rw [if_neg k2]
        by_cases k3 : P 0 i = 3
        · have lt : nI c < 200 := by rw [show (200 : Int32) = nI 200 from rfl]; exact (Int32.not_le).mp (nI_ge h200 (by omega))
          rw [if_pos k3, if_pos k3, hc, if_pos lt, tc_up_self, nI_1]
          refine ⟨rfl, fun j => ?_⟩
          rw [tc_up_ne (fun e => h2 e.symm), tc_up_v, if_pos rfl, show tp_n (nI c) = c from nI_clamp (by omega)]
          by_cases e : j = c
          · rw [if_pos e, if_pos ⟨k3, e⟩]
          · rw [if_neg e, if_neg (fun q => e q.2)]
        · rw [if_neg k3, if_neg k3, hc]
          exact ⟨rfl, fun j => by rw [if_neg (fun q => k3 q.1)]⟩
theorem sd_do_r {P : tp_P} {i f b c r : Nat} {u : tc_S} : sd_do P i f b c u 72 (f + r) = ln_r P i (fun r => u 72 (f + r)) r := by
  have e : ∀ a : Nat, (f + r = f + a) ↔ r = a := fun a => by omega
  unfold sd_do ln_r
  by_cases k0 : P 0 i = 0
  · rw [if_pos k0, if_pos k0, tc_up_v, if_pos rfl]; simp only [e]
  · rw [if_neg k0, if_neg k0]
    by_cases k1 : P 0 i = 1
    · rw [if_pos k1, if_pos k1, tc_up_v, if_pos rfl]; simp only [e]
    · rw [if_neg k1, if_neg k1]
      by_cases k2 : P 0 i = 2
      · rw [if_pos k2, if_pos k2, tc_up_v, if_pos rfl]; simp only [e]
      · rw [if_neg k2, if_neg k2]
        by_cases k3 : P 0 i = 3
        · rw [if_pos k3, tc_up_ne (by decide)]
        · rw [if_neg k3]
theorem sd_do_n {P : tp_P} {i f b c z : Nat} {u : tc_S} (hl : tp_line P i) (hz : ∀ a, a < 6 → z ≠ f + a) : sd_do P i f b c u 72 z = u 72 z := by
  have h1 : ¬ P 0 i = -1 → z ≠ f + tp_n (P 1 i) := fun q => hz _ (tp_one hl q)
  unfold sd_do
  by_cases k0 : P 0 i = 0
  · rw [if_pos k0, tc_up_at (h1 (by rw [k0]; decide))]
  · rw [if_neg k0]
    by_cases k1 : P 0 i = 1
    · rw [if_pos k1, tc_up_at (h1 (by rw [k1]; decide))]
    · rw [if_neg k1]
      by_cases k2 : P 0 i = 2
      · rw [if_pos k2, tc_up_at (h1 (by rw [k2]; decide))]
      · rw [if_neg k2]
        by_cases k3 : P 0 i = 3
        · rw [if_pos k3, tc_up_ne (by decide)]
        · rw [if_neg k3]
theorem sd_do_5 {P : tp_P} {i f b c j : Nat} {u : tc_S} : sd_do P i f b c u 75 j = if P 0 i = 3 ∧ j = 2 * c + b then u 72 (f + tp_n (P 1 i)) else u 75 j := by
  unfold sd_do
  by_cases k0 : P 0 i = 0
  · have n3 : ¬ P 0 i = 3 := by rw [k0]; decide
    rw [if_pos k0, tc_up_ne (by decide), if_neg (fun q => n3 q.1)]
  · rw [if_neg k0]
    by_cases k1 : P 0 i = 1
    · have n3 : ¬ P 0 i = 3 := by rw [k1]; decide
      rw [if_pos k1, tc_up_ne (by decide), if_neg (fun q => n3 q.1)]
    · rw [if_neg k1]
      by_cases k2 : P 0 i = 2
      · have n3 : ¬ P 0 i = 3 := by rw [k2]; decide
        rw [if_pos k2, tc_up_ne (by decide), if_neg (fun q => n3 q.1)]
      · rw [if_neg k2]
        by_cases k3 : P 0 i = 3
        · rw [if_pos k3, tc_up_v, if_pos rfl]
          by_cases e : j = 2 * c + b
          · rw [if_pos e, if_pos ⟨k3, e⟩]
          · rw [if_neg e, if_neg (fun q => e q.2)]
        · rw [if_neg k3, if_neg (fun q => k3 q.1)]
theorem nm_o {P : tp_P} {q z : Nat} {u : tc_S} (h : z ≠ 54) (h2 : z ≠ 55) : sn_nm P q u z = u z := by
  unfold sn_nm
  split
  · rw [tc_up_ne h2, tc_up_ne h]
  · rfl
theorem sn_step_o {n q z : Nat} {P P1 : tp_P} {u : tc_S} (h : z < 47 ∨ 56 ≤ z) : sn_step n P P1 q u z = u z := by
  unfold sn_step sn_2 sn_1
  rw [tc_up_ne (by omega), tc_up_ne (by omega), sm_do_z (by omega) (by omega) (by omega), sm_do_z (by omega) (by omega) (by omega), nm_o (by omega) (by omega)]
section JS
variable {n q t c : Nat} {P P1 M M1 : tp_P} {u V : tc_S}
theorem se_3o {z : Nat} (h : z ≠ 56) (h2 : z ≠ 72) (h3 : z ≠ 75) : se_3 M M1 q t c V z = V z := by
  unfold se_3 se_1; rw [sd_do_o h2 h3, sd_do_o h2 h3, tc_up_ne h, tc_up_ne h]
theorem se_4o {z : Nat} (h : z ≠ 56) : se_4 M M1 q t c V z = se_3 M M1 q t c V z := by
  unfold se_4
  split
  · exact tc_up_ne h
  · rfl
theorem se_5o {z : Nat} (h : z ≠ 73) (h2 : z ≠ 74) : se_5 M M1 q t c V z = se_4 M M1 q t c V z := by
  unfold se_5
  split
  · rw [tc_up_ne h2, tc_up_ne h]
  · rfl
theorem se_6o {z : Nat} (h : z ≠ 56) : se_6 n M M1 q t c V z = se_5 M M1 q t c V z := tc_up_ne h
theorem se_6c {z : Nat} (h : z < 56 ∨ (57 ≤ z ∧ z < 72) ∨ 76 ≤ z) : se_6 n M M1 q t c V z = V z := by
  rw [se_6o (by omega), se_5o (by omega) (by omega), se_4o (by omega), se_3o (by omega) (by omega) (by omega)]
theorem se_356 {j : Nat} : se_3 M M1 q t c V 56 j = if j = 20 then nI (t + 1) else if j = 0 then 0 else V 56 j := by
  unfold se_3 se_1
  rw [sd_do_o (by decide) (by decide), sd_do_o (by decide) (by decide), tc_up_v, if_pos rfl, tc_up_v, if_pos rfl]
theorem se_656 {j : Nat} : se_6 n M M1 q t c V 56 j = if j = 19 then nI (se_nx n M q t V) else if M 0 q = 3 ∧ j = 24 then nI (c + 1) else if j = 20 then nI (t + 1) else if j = 0 then 0 else V 56 j := by
  unfold se_6
  rw [tc_up_v, if_pos rfl, se_5o (by decide) (by decide)]
  unfold se_4
  by_cases k : M 0 q = 3
  · rw [if_pos k, tc_up_v, if_pos rfl, se_356]
    by_cases e : j = 24
    · rw [if_pos e, if_pos (show M 0 q = 3 ∧ j = 24 from ⟨k, e⟩)]
    · rw [if_neg e, if_neg (show ¬ (M 0 q = 3 ∧ j = 24) from fun z => e z.2)]
  · rw [if_neg k, if_neg (show ¬ (M 0 q = 3 ∧ j = 24) from fun z => k z.1), se_356]
theorem se_372 (hl : tp_line M q) (hl1 : tp_line M1 q) : (∀ r, r < 6 → se_3 M M1 q t c V 72 (0 + r) = ln_r M q (fun r => V 72 (0 + r)) r) ∧ ∀ r, r < 6 → se_3 M M1 q t c V 72 (6 + r) = ln_r M1 q (fun r => V 72 (6 + r)) r := by
  have e1 : se_1 t V 72 = V 72 := by unfold se_1; rw [tc_up_ne (by decide), tc_up_ne (by decide)]
  refine ⟨fun r hr => ?_, fun r hr => ?_⟩
  · unfold se_3
    rw [sd_do_n hl1 (fun a ha => by omega), sd_do_r, e1]
  · unfold se_3
    rw [sd_do_r]
    refine ln_c hl1 (fun _ _ => rfl) hr (fun r hr => ?_)
    show sd_do M q 0 0 c (se_1 t V) 72 (6 + r) = V 72 (6 + r)
    rw [sd_do_n hl (fun a ha => by omega), e1]
theorem se_375 (hl : tp_line M q) (hl1 : tp_line M1 q) (h3 : M1 0 q = 3 ↔ M 0 q = 3) {j : Nat} : se_3 M M1 q t c V 75 j = if M 0 q = 3 ∧ j = 2 * c + 1 then V 72 (6 + tp_n (M1 1 q)) else if M 0 q = 3 ∧ j = 2 * c + 0 then V 72 (0 + tp_n (M 1 q)) else V 75 j := by
  have e1 : se_1 t V 72 = V 72 := by unfold se_1; rw [tc_up_ne (by decide), tc_up_ne (by decide)]
  have e2 : se_1 t V 75 = V 75 := by unfold se_1; rw [tc_up_ne (by decide), tc_up_ne (by decide)]
  unfold se_3
  rw [sd_do_5]
  by_cases k : M 0 q = 3 ∧ j = 2 * c + 1
  · rw [if_pos (show M1 0 q = 3 ∧ j = 2 * c + 1 from ⟨h3.mpr k.1, k.2⟩), if_pos k, sd_do_n hl (fun a ha => by omega), e1]
  · rw [if_neg (show ¬ (M1 0 q = 3 ∧ j = 2 * c + 1) from fun z => k ⟨h3.mp z.1, z.2⟩), if_neg k, sd_do_5, e1, e2]
end JS
theorem j_step {n q t c : Nat} {u : tc_S} {y : Int32} (h : jI n u) (hm : u 0 5 = 1) (hR : jR n q t c u) (hq : q < n) (ht : t < 200) :
    jI n (se_6 n (pm (tc_up (sn_step n (pv u 3) (pv u 9) q u) 76 0 y) 0) (pm (tc_up (sn_step n (pv u 3) (pv u 9) q u) 76 0 y) 16) q t c (tc_up (sn_step n (pv u 3) (pv u 9) q u) 76 0 y)) ∧
    sn_nx n (pv u 3) (pv u 9) q u = se_nx n (pm (tc_up (sn_step n (pv u 3) (pv u 9) q u) 76 0 y) 0) q t (tc_up (sn_step n (pv u 3) (pv u 9) q u) 76 0 y) ∧
    se_6 n (pm (tc_up (sn_step n (pv u 3) (pv u 9) q u) 76 0 y) 0) (pm (tc_up (sn_step n (pv u 3) (pv u 9) q u) 76 0 y) 16) q t c (tc_up (sn_step n (pv u 3) (pv u 9) q u) 76 0 y) 56 0 = 0 := by
  have hA := h.1
  have hM := h.2 hm
  have hc := hR.c1
  have oV : ∀ z, z ≠ 76 → (z < 47 ∨ 56 ≤ z) → tc_up (sn_step n (pv u 3) (pv u 9) q u) 76 0 y z = u z := fun z h1 h2 => by rw [tc_up_ne h1, sn_step_o h2]
  have oV2 : ∀ z, z ≠ 76 → tc_up (sn_step n (pv u 3) (pv u 9) q u) 76 0 y z = sn_step n (pv u 3) (pv u 9) q u z := fun z h1 => tc_up_ne h1
  have pmV : ∀ o, pm (tc_up (sn_step n (pv u 3) (pv u 9) q u) 76 0 y) o = pm u o := fun o => pm_F (fun j hj => oV (57 + j) (by omega) (by omega))
  rw [pmV, pmV]
  generalize tc_up (sn_step n (pv u 3) (pv u 9) q u) 76 0 y = V at oV oV2
  have agM : ∀ j, j < 4 → pm u 0 j q = pv u 3 j q := fun j hj => by rw [pm_of hj, Nat.zero_add]; exact hA.eq j q hj hq
  have agM1 : ∀ j, j < 4 → pm u 16 j q = pv u 9 j q := fun j hj => by rw [pm_of hj]; exact hM.eq j q hj hq
  have hl := hA.li q hq
  have hl1 := hM.li q hq
  have agA : ag n (pm u 0) (pv u 3) := fun j i hj hi => by rw [pm_of hj, Nat.zero_add]; exact hA.eq j i hj hi
  have agA1 : ag n (pm u 16) (pv u 9) := fun j i hj hi => by rw [pm_of hj]; exact hM.eq j i hj hi
  have ml : tp_line (pm u 0) q := ag_line agA hq hl
  have ml1 : tp_line (pm u 16) q := ag_line agA1 hq hl1
  have hne := hA.ne q hq
  have kd := hM.kd q hq
  have k3 : pv u 9 0 q = 3 ↔ pv u 3 0 q = 3 := by
    rcases kd with e | ⟨e, e2⟩
    · rw [e]
    · rw [e]
      refine ⟨fun z => absurd z (by decide), fun z => ?_⟩
      rw [z] at e2; exact absurd e2 (by decide)
  have k3m : pm u 16 0 q = 3 ↔ pm u 0 0 q = 3 := by rw [agM1 0 (by decide), agM 0 (by decide)]; exact k3
  have e49 : sn_1 (pv u 3) (pv u 9) q u 49 = u 49 := by unfold sn_1; rw [sm_do_z (by decide) (by decide) (by decide), nm_o (by decide) (by decide)]
  have enx : sn_nx n (pv u 3) (pv u 9) q u = se_nx n (pm u 0) q t V := by
    unfold sn_nx sm_nx se_nx
    rw [e49, oV 72 (by decide) (by omega), agM 0 (by decide), agM 1 (by decide), ag_tg agA hq]
    by_cases k4 : pv u 3 0 q = 4
    · have := hR.r1 (tp_n (pv u 3 1 q)) (tp_one hl hne)
      rw [Nat.zero_add] at this
      rw [this]
    · rw [if_neg (fun z => k4 z.1), if_neg (fun z => k4 z.1)]
  have o56 : ∀ j, j ≠ 19 → j ≠ 24 → j ≠ 20 → j ≠ 0 → se_6 n (pm u 0) (pm u 16) q t c V 56 j = u 56 j := fun j h1 h2 h3 h4 => by
    rw [se_656, if_neg h1, if_neg (fun z => h2 z.2), if_neg h3, if_neg h4, oV 56 (by decide) (by omega)]
  refine ⟨⟨hA.same (fun z hz => by rw [se_6c (by omega), oV z (by omega) (by omega)]) (fun j hj i _ => by rw [se_6c (by omega), oV (57 + j) (by omega) (by omega)]) (o56 1 (by decide) (by decide) (by decide) (by decide)) (o56 6 (by decide) (by decide) (by decide) (by decide)), fun _ => hM.same (fun z hz => by rw [se_6c (by omega), oV z (by omega) (by omega)]) (fun z h1 h2 => by rw [se_6c (by omega), oV z (by omega) (by omega)]) ⟨sn_nx n (pv u 3) (pv u 9) q u, t + 1, if pv u 3 0 q = 3 then c + 1 else c, ?_⟩⟩, enx, by rw [se_656]; simp⟩
  have s51 : sn_nm (pv u 3) q u 51 2 = nI c := by rw [nm_o (by decide) (by decide)]; exact hR.o2
  obtain ⟨d1, d2⟩ := sm_do_3 (P := pv u 9) (i := q) (k := 51) (co := 52) (ou := 53) (u := sn_nm (pv u 3) q u) s51 (by omega) (by decide) (by decide) (by decide)
  have s48 : sn_1 (pv u 3) (pv u 9) q u 48 2 = nI c := by unfold sn_1; rw [sm_do_z (by decide) (by decide) (by decide), nm_o (by decide) (by decide)]; exact hR.o1
  obtain ⟨f1, f2⟩ := sm_do_3 (P := pv u 3) (i := q) (k := 48) (co := 49) (ou := 50) (u := sn_1 (pv u 3) (pv u 9) q u) s48 (by omega) (by decide) (by decide) (by decide)
  have W : ∀ z, z < 56 → se_6 n (pm u 0) (pm u 16) q t c V z = sn_step n (pv u 3) (pv u 9) q u z := fun z hz => by rw [se_6c (by omega), oV2 z (by omega)]
  have S2 : ∀ z, z ≠ 47 → sn_step n (pv u 3) (pv u 9) q u z = sn_2 (pv u 3) (pv u 9) q u z := fun z hz => by unfold sn_step; rw [tc_up_ne hz, tc_up_ne hz]
  have S1 : ∀ z, z ≠ 47 → z ≠ 48 → z ≠ 49 → z ≠ 50 → sn_step n (pv u 3) (pv u 9) q u z = sn_1 (pv u 3) (pv u 9) q u z := fun z h1 h2 h3 h4 => by rw [S2 z h1]; unfold sn_2; rw [sm_do_z h2 h3 h4]
  have s72 := se_372 (t := t) (c := c) (V := V) ml ml1
  have W72 : ∀ z, se_6 n (pm u 0) (pm u 16) q t c V 72 z = se_3 (pm u 0) (pm u 16) q t c V 72 z := fun z => by rw [se_6o (by decide), se_5o (by decide) (by decide), se_4o (by decide)]
  have W75 : ∀ z, se_6 n (pm u 0) (pm u 16) q t c V 75 z = se_3 (pm u 0) (pm u 16) q t c V 75 z := fun z => by rw [se_6o (by decide), se_5o (by decide) (by decide), se_4o (by decide)]
  refine ⟨?_, by omega, ?_, ?_, ?_, ?_, ?_, ?_, ?_, ?_, fun r hr => ?_, fun r hr => ?_, fun v hv => ?_, fun j hj => ?_⟩
  · unfold sn_nx sm_nx
    split
    · exact tp_tg_le hq
    · omega
  · split <;> omega
  · rw [W 47 (by decide)]; unfold sn_step; rw [tc_up_at (by decide), tc_up_self]
  · rw [se_656, if_pos rfl, enx]
  · rw [W 47 (by decide)]; unfold sn_step; rw [tc_up_self, hR.b1, nI_1]
  · rw [se_656]; simp
  · rw [W 48 (by decide), S2 48 (by decide)]; exact f1
  · rw [W 51 (by decide), S1 51 (by decide) (by decide) (by decide) (by decide)]
    unfold sn_1; rw [d1]
    by_cases z : pv u 3 0 q = 3
    · rw [if_pos z, if_pos (k3.mpr z)]
    · rw [if_neg z, if_neg (fun y => z (k3.mp y))]
  · rw [se_656, if_neg (by decide), agM 0 (by decide)]
    by_cases z : pv u 3 0 q = 3
    · rw [if_pos ⟨z, rfl⟩, if_pos z]
    · rw [if_neg (fun y => z y.1), if_neg (by decide), if_neg (by decide), if_neg z, oV 56 (by decide) (by omega)]; exact hR.o3
  · rw [W 49 (by decide), S2 49 (by decide), W72, s72.1 r hr]
    unfold sn_2
    rw [sm_do_r (by decide) (by decide), e49]
    refine ln_c hl agM hr (fun r hr => ?_)
    rw [oV 72 (by decide) (by omega)]; exact hR.r1 r hr
  · rw [W 52 (by decide), S1 52 (by decide) (by decide) (by decide) (by decide), W72, s72.2 r hr]
    unfold sn_1
    rw [sm_do_r (by decide) (by decide), nm_o (by decide) (by decide)]
    refine ln_c hl1 agM1 hr (fun r hr => ?_)
    rw [oV 72 (by decide) (by omega)]; exact hR.r2 r hr
  · have e54 : ∀ z, z = 54 ∨ z = 55 → se_6 n (pm u 0) (pm u 16) q t c V z = sn_nm (pv u 3) q u z := fun z hz => by
      rw [W z (by omega), S1 z (by omega) (by omega) (by omega) (by omega)]; unfold sn_1; rw [sm_do_z (by omega) (by omega) (by omega)]
    have o3 : ∀ z, z = 73 ∨ z = 74 → se_4 (pm u 0) (pm u 16) q t c V z = u z := fun z hz => by
      rw [se_4o (by omega), se_3o (by omega) (by omega) (by omega), oV z (by omega) (by omega)]
    obtain ⟨v1, v2, v3⟩ := hR.v1 v hv
    rw [e54 54 (by decide), e54 55 (by decide), se_6o (by decide), se_6o (by decide)]
    unfold se_5 sn_nm
    rw [agM 0 (by decide), agM 1 (by decide), agM 2 (by decide)]
    by_cases k5 : pv u 3 0 q = 5
    · rw [if_pos k5, if_pos k5]
      have n012 : ¬ (pv u 3 0 q = 0 ∨ pv u 3 0 q = 1 ∨ pv u 3 0 q = 2) := by rw [k5]; decide
      have val : se_4 (pm u 0) (pm u 16) q t c V 72 (tp_n (pv u 3 2 q)) = u 49 (tp_n (pv u 3 2 q)) := by
        have hb := tp_two hl (Or.inr (Or.inr k5))
        have := s72.1 _ hb
        rw [Nat.zero_add] at this
        rw [se_4o (by decide), this, hR.r1 _ hb]
        unfold ln_r
        rw [agM 0 (by decide), if_neg (fun z => n012 (Or.inl z)), if_neg (fun z => n012 (Or.inr (Or.inl z))), if_neg (fun z => n012 (Or.inr (Or.inr z))), oV 72 (by decide) (by omega)]
      rw [val]
      simp only [tc_up_v, if_true, reduceIte, Nat.reduceEqDiff]
      by_cases ev : v = tp_n (pv u 3 1 q)
      · simp only [if_pos ev]
        exact ⟨trivial, Or.inr trivial, fun _ => trivial⟩
      · simp only [if_neg ev]
        rw [o3 73 (by decide), o3 74 (by decide)]
        exact ⟨v1, v2, v3⟩
    · rw [if_neg k5, if_neg k5, o3 73 (by decide), o3 74 (by decide)]
      exact ⟨v1, v2, v3⟩
  · rw [W 50 (by decide), S2 50 (by decide), W 53 (by decide), S1 53 (by decide) (by decide) (by decide) (by decide), W75, W75, se_375 ml ml1 k3m, se_375 ml ml1 k3m]
    unfold sn_2
    rw [f2, e49]
    unfold sn_1
    rw [d2, sm_do_z (by decide) (by decide) (by decide), nm_o (by decide) (by decide), nm_o (by decide) (by decide), nm_o (by decide) (by decide), agM 0 (by decide), agM 1 (by decide), agM1 1 (by decide), oV 72 (by decide) (by omega), oV 75 (by decide) (by omega)]
    by_cases k : pv u 3 0 q = 3
    · rw [if_pos k] at hj
      have hb := tp_one hl hne
      have hb1 := tp_one hl1 (by rw [k3.mpr k]; decide)
      by_cases e : j = c
      · constructor
        · rw [if_pos (show pv u 3 0 q = 3 ∧ j = c from ⟨k, e⟩), if_neg (show ¬ (pv u 3 0 q = 3 ∧ 2 * j + 0 = 2 * c + 1) from fun z => by have := z.2; omega), if_pos (show pv u 3 0 q = 3 ∧ 2 * j + 0 = 2 * c + 0 from ⟨k, by omega⟩)]
          exact hR.r1 _ hb
        · rw [if_pos (show pv u 9 0 q = 3 ∧ j = c from ⟨k3.mpr k, e⟩), if_pos (show pv u 3 0 q = 3 ∧ 2 * j + 1 = 2 * c + 1 from ⟨k, by omega⟩)]
          exact hR.r2 _ hb1
      · have hp := hR.p1 j (by omega)
        constructor
        · rw [if_neg (show ¬ (pv u 3 0 q = 3 ∧ j = c) from fun z => e z.2), if_neg (show ¬ (pv u 3 0 q = 3 ∧ 2 * j + 0 = 2 * c + 1) from fun z => by have := z.2; omega), if_neg (show ¬ (pv u 3 0 q = 3 ∧ 2 * j + 0 = 2 * c + 0) from fun z => by have := z.2; omega)]
          exact hp.1
        · rw [if_neg (show ¬ (pv u 9 0 q = 3 ∧ j = c) from fun z => e z.2), if_neg (show ¬ (pv u 3 0 q = 3 ∧ 2 * j + 1 = 2 * c + 1) from fun z => by have := z.2; omega), if_neg (show ¬ (pv u 3 0 q = 3 ∧ 2 * j + 1 = 2 * c + 0) from fun z => by have := z.2; omega)]
          exact hp.2
    · rw [if_neg k] at hj
      have hp := hR.p1 j hj
      constructor
      · rw [if_neg (show ¬ (pv u 3 0 q = 3 ∧ j = c) from fun z => k z.1), if_neg (show ¬ (pv u 3 0 q = 3 ∧ 2 * j + 0 = 2 * c + 1) from fun z => k z.1), if_neg (show ¬ (pv u 3 0 q = 3 ∧ 2 * j + 0 = 2 * c + 0) from fun z => k z.1)]
        exact hp.1
      · rw [if_neg (show ¬ (pv u 9 0 q = 3 ∧ j = c) from fun z => k (k3.mp z.1)), if_neg (show ¬ (pv u 3 0 q = 3 ∧ 2 * j + 1 = 2 * c + 1) from fun z => k z.1), if_neg (show ¬ (pv u 3 0 q = 3 ∧ 2 * j + 1 = 2 * c + 0) from fun z => k z.1)]
        exact hp.2
