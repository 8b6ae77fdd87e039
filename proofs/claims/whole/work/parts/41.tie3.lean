/-! the first half of a round, as the class does it -/
theorem pp_1 {n i j : Nat} {u v : tc_S} (hn : n ≤ 16) (hP : ∀ i, i < n → tp_line (pv u 9) i) (hi : i < n) (hv : ∀ r, r < 6 → v (16 + r) i = sp_find n u (16 + r) i) (h0 : pv v 9 0 i = pv u 9 0 i) (h1 : pv v 9 j i = pv u 9 j i) : (sp_pq v i j ↔ tp_q n (pv u 9) j i) ∧ pv (sp_p1 i j v) 9 j i = tp_p1 n (pv u 9) j i := by
  obtain ⟨-, c2, c3⟩ := sp_c hn hP
  have hrd := tp_rd_congr (P := pv u 9) (Q := pv v 9) (i := i) h0 j
  by_cases rd : tp_rd (pv u 9) i j
  · obtain ⟨a, ha, ea⟩ := tp_rd_reg (hP i hi) rd
    have en' : tp_n (pv u 9 j i) = a := by rw [ea]; exact nI_clamp (by omega)
    have en : tp_n (pv v 9 j i) = a := by rw [h1]; exact en'
    have ev : v (16 + tp_n (pv v 9 j i)) i = sp_find n u (16 + a) i := by rw [en]; exact hv a ha
    rcases c2 a ha i (by omega) with z | ⟨b, hb, z⟩
    · have np : ¬ sp_pq v i j := fun q => q.2 (ev.trans z)
      have nq : ¬ tp_q n (pv u 9) j i := by
        rintro ⟨-, b, hb⟩
        rw [en'] at hb
        obtain ⟨S, hS, hs⟩ := id hb
        have hb6 := (tp_c_reg hS hP i (by omega) _ _ hs).2
        have := (c3 i (by omega) a ha b hb6).mpr hb
        rw [z] at this
        exact nI_m1' (by omega) this.symm
      refine ⟨⟨fun q => absurd q np, fun q => absurd q nq⟩, ?_⟩
      rw [tp_p1_nq nq]
      unfold sp_p1; rw [if_neg np]; exact h1
    · have hc := (c3 i (by omega) a ha b hb).mp z
      have yp : sp_pq v i j := ⟨hrd.mpr rd, fun q => by rw [ev, z] at q; exact nI_m1' (by omega) q⟩
      have yc : tp_c n (pv u 9) i (tp_n (pv u 9 j i)) b := by rw [en']; exact hc
      refine ⟨⟨fun _ => ⟨rd, b, yc⟩, fun _ => yp⟩, ?_⟩
      rw [tp_p1_q (by omega) rd yc]
      unfold sp_p1
      rw [if_pos yp]
      show tc_up v (9 + j) i _ (9 + j) i = _
      rw [tc_up_self]; exact ev.trans z
  · have np : ¬ sp_pq v i j := fun q => rd (hrd.mp q.1)
    have nq : ¬ tp_q n (pv u 9) j i := fun q => rd q.1
    refine ⟨⟨fun q => absurd q np, fun q => absurd q nq⟩, ?_⟩
    rw [tp_p1_nq nq]
    unfold sp_p1; rw [if_neg np]; exact h1
theorem pp_ls {n : Nat} {u : tc_S} (hn : n ≤ 16) (hP : ∀ i, i < n → tp_line (pv u 9) i) : ∀ i, i ≤ n → (∀ q, q < 9 ∨ 13 ≤ q → (sp_ls i (sp_find n u, 0)).1 q = sp_find n u q) ∧ (∀ j z, j < 4 → z < n → pv (sp_ls i (sp_find n u, 0)).1 9 j z = if z < i then tp_pass n (pv u 9) j z else pv u 9 j z) ∧ ((sp_ls i (sp_find n u, 0)).2 = 0 ↔ ¬ ∃ z, z < i ∧ ((∃ j, j < 4 ∧ tp_q n (pv u 9) j z) ∨ tp_e1 n (pv u 9) z))
  | 0, _ => ⟨fun _ _ => rfl, fun j z hj hz => by rw [if_neg (by omega)]; exact sf_Fpv (sp_c hn hP).1 (by omega) hj, ⟨fun _ ⟨z, hz, _⟩ => absurd hz (by omega), fun _ => rfl⟩⟩
  | i + 1, hi => by
    obtain ⟨a1, a2, a3⟩ := pp_ls hn hP i (by omega)
    show (∀ q, q < 9 ∨ 13 ≤ q → (sp_l1 i (sp_ls i (sp_find n u, 0))).1 q = _) ∧ (∀ j z, j < 4 → z < n → pv (sp_l1 i (sp_ls i (sp_find n u, 0))).1 9 j z = _) ∧ ((sp_l1 i (sp_ls i (sp_find n u, 0))).2 = 0 ↔ _)
    generalize sp_ls i (sp_find n u, 0) = x at a1 a2 a3 ⊢
    have r0 : ∀ j, j < 4 → pv x.1 9 j i = pv u 9 j i := fun j hj => by rw [a2 j i hj (by omega), if_neg (by omega)]
    have rr : ∀ r, r < 6 → x.1 (16 + r) i = sp_find n u (16 + r) i := fun r hr => by rw [a1 (16 + r) (by omega)]
    obtain ⟨b1, b2⟩ := pp_1 (i := i) (v := x.1) (j := 1) hn hP (by omega) rr (r0 0 (by omega)) (r0 1 (by omega))
    obtain ⟨c1, c2⟩ := pp_1 (i := i) (v := sp_p1 i 1 x.1) (j := 2) hn hP (by omega) (fun r hr => by rw [sp_p1_out (by omega) (by omega)]; exact rr r hr) (by rw [sp_p1_ne (Or.inr (by decide))]; exact r0 0 (by omega)) (by rw [sp_p1_ne (Or.inr (by decide))]; exact r0 2 (by omega))
    obtain ⟨d1, d2⟩ := pp_1 (i := i) (v := sp_p1 i 2 (sp_p1 i 1 x.1)) (j := 3) hn hP (by omega) (fun r hr => by rw [sp_p1_out (by omega) (by omega), sp_p1_out (by omega) (by omega)]; exact rr r hr) (by rw [sp_p1_ne (Or.inr (by decide)), sp_p1_ne (Or.inr (by decide))]; exact r0 0 (by omega)) (by rw [sp_p1_ne (Or.inr (by decide)), sp_p1_ne (Or.inr (by decide))]; exact r0 3 (by omega))
    have e : ∀ j, j < 4 → pv (sp_v3 i x.1) 9 j i = tp_p1 n (pv u 9) j i := fun j hj => by
      unfold sp_v3
      have : j = 0 ∨ j = 1 ∨ j = 2 ∨ j = 3 := by omega
      rcases this with rfl | rfl | rfl | rfl
      · rw [sp_p1_ne (Or.inr (by decide)), sp_p1_ne (Or.inr (by decide)), sp_p1_ne (Or.inr (by decide)), r0 0 (by omega), tp_p1_0]
      · rw [sp_p1_ne (Or.inr (by decide)), sp_p1_ne (Or.inr (by decide)), b2]
      · rw [sp_p1_ne (Or.inr (by decide)), c2]
      · exact d2
    have o : ∀ q, q < 9 ∨ 13 ≤ q → sp_v3 i x.1 q = sp_find n u q := fun q hq => by
      unfold sp_v3
      rw [sp_p1_out hq (by omega), sp_p1_out hq (by omega), sp_p1_out hq (by omega), a1 q hq]
    have ne : ∀ j z, j < 4 → z < n → z ≠ i → pv (sp_v3 i x.1) 9 j z = if z < i + 1 then tp_pass n (pv u 9) j z else pv u 9 j z := fun j z hj hz hne => by
      unfold sp_v3
      rw [sp_p1_ne (Or.inl hne), sp_p1_ne (Or.inl hne), sp_p1_ne (Or.inl hne), a2 j z hj hz]
      by_cases h : z < i
      · rw [if_pos h, if_pos (by omega)]
      · rw [if_neg h, if_neg (by omega)]
    have hE : (sp_v3 i x.1 (9 + 0) i = 1 ∧ sp_v3 i x.1 (9 + 1) i = sp_v3 i x.1 (9 + 2) i) ↔ tp_e1 n (pv u 9) i := by
      show (pv (sp_v3 i x.1) 9 0 i = 1 ∧ pv (sp_v3 i x.1) 9 1 i = pv (sp_v3 i x.1) 9 2 i) ↔ _
      rw [e 0 (by omega), e 1 (by omega), e 2 (by omega), tp_p1_0]
      exact Iff.rfl
    unfold sp_l1
    by_cases h : tp_e1 n (pv u 9) i
    · rw [if_pos (hE.mpr h)]
      refine ⟨fun q hq => by show sp_me i (sp_v3 i x.1) q = _; rw [sp_me_out hq]; exact o q hq, fun j z hj hz => ?_, ⟨fun q => absurd (show (1 : Int32) = 0 from q) (by decide), fun q => absurd ⟨i, by omega, Or.inr h⟩ q⟩⟩
      show pv (sp_me i (sp_v3 i x.1)) 9 j z = _
      by_cases ez : z = i
      · rw [ez, sp_me_at hj, if_pos (show i < i + 1 by omega), tp_pass_e (by omega) hj h]
      · rw [sp_me_ne ez]; exact ne j z hj hz ez
    · rw [if_neg (fun q => h (hE.mp q))]
      refine ⟨o, fun j z hj hz => ?_, ?_⟩
      · show pv (sp_v3 i x.1) 9 j z = _
        by_cases ez : z = i
        · rw [ez, if_pos (show i < i + 1 by omega), tp_pass_n (by omega) hj h]; exact e j hj
        · exact ne j z hj hz ez
      · show sp_c3 i x = 0 ↔ _
        unfold sp_c3
        rw [or_z, or_z, or_z, a3, tp_b_iff b1, tp_b_iff c1, tp_b_iff d1]
        constructor
        · rintro ⟨⟨⟨h0, h1⟩, h2⟩, h3⟩ ⟨z, hz, hq⟩
          by_cases ez : z = i
          · rw [ez] at hq
            rcases hq with ⟨j, hj, hq⟩ | hq
            · have : j = 0 ∨ j = 1 ∨ j = 2 ∨ j = 3 := by omega
              rcases this with rfl | rfl | rfl | rfl
              · exact tp_rd0 hq.1
              · exact tp_b_q h1 hq
              · exact tp_b_q h2 hq
              · exact tp_b_q h3 hq
            · exact h hq
          · exact h0 ⟨z, by omega, hq⟩
        · intro hno
          exact ⟨⟨⟨fun ⟨z, hz, hq⟩ => hno ⟨z, by omega, hq⟩, tp_b_f fun q => hno ⟨i, by omega, Or.inl ⟨1, by omega, q⟩⟩⟩, tp_b_f fun q => hno ⟨i, by omega, Or.inl ⟨2, by omega, q⟩⟩⟩, tp_b_f fun q => hno ⟨i, by omega, Or.inl ⟨3, by omega, q⟩⟩⟩
theorem sp_pass_c {n : Nat} {u : tc_S} (hn : n ≤ 16) (hP : ∀ i, i < n → tp_line (pv u 9) i) : (∀ q, q < 9 ∨ q = 13 → (sp_pass n u).1 q = u q) ∧ ag n (pv (sp_pass n u).1 9) (tp_pass n (pv u 9)) ∧ ((sp_pass n u).2 = 0 ↔ ¬ tp_pch n (pv u 9)) := by
  obtain ⟨h1, h2, h3⟩ := pp_ls hn hP n (Nat.le_refl n)
  refine ⟨fun q hq => ?_, fun j i hj hi => ?_, h3⟩
  · show (sp_ls n (sp_find n u, 0)).1 q = _
    rw [h1 q (by omega)]; exact sp_findF n u q (by omega)
  · show pv (sp_ls n (sp_find n u, 0)).1 9 j i = _
    rw [h2 j i hj hi, if_pos hi]
