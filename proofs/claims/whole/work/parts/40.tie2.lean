theorem ct_z_congr {v w : tc_S} {q : Nat} (h : ∀ r, r < 6 → w (16 + r) q = v (16 + r) q) : ∀ r, r ≤ 6 → ct_z w q r = ct_z v q r
  | 0, _ => rfl
  | r + 1, hr => by unfold ct_z; rw [ct_z_congr h r (by omega), h r (by omega)]
theorem ct_Z_congr {v w : tc_S} (h : ∀ q r, r < 6 → w (16 + r) q = v (16 + r) q) : ∀ q, ct_Z w q = ct_Z v q
  | 0 => rfl
  | q + 1 => by unfold ct_Z; rw [ct_Z_congr h q, ct_z_congr (h q) 6 (by omega)]
theorem fb_congr {P Q : tp_P} {i r : Nat} {o o' : Nat → Int32} (h : ∀ j, j < 4 → P j i = Q j i) (ho : o r = o' r) : tp_fb P i o r = tp_fb Q i o' r := by
  unfold tp_fb tp_wI
  rw [h 0 (by decide), h 1 (by decide), h 2 (by decide), ho]
theorem fb_r {P : tp_P} {i r : Nat} {o : Nat → Int32} (hl : tp_line P i) (ho : sp_r (o r)) : sp_r (tp_fb P i o r) := by
  by_cases k : P 0 i = 1 ∧ ¬ P 2 i = P 1 i ∧ nI r = P 1 i
  · rw [tp_fb_y k]
    exact Or.inr (hl.2.2.1 (Or.inl k.1))
  · rw [tp_fb_n k]
    unfold tp_f0
    split
    · exact Or.inl rfl
    · exact ho
def ct_t (v : tc_S) : Nat → Nat → Int32 := fun r q => if r < 6 then v (16 + r) q else 0
theorem ct_t_e {v w : tc_S} (h : ct_t v = ct_t w) {r q : Nat} (hr : r < 6) : v (16 + r) q = w (16 + r) q := by
  have := congrFun (congrFun h r) q
  unfold ct_t at this
  rw [if_pos hr, if_pos hr] at this
  exact this
theorem ct_t_i {v w : tc_S} (h : ∀ r, r < 6 → v (16 + r) = w (16 + r)) : ct_t v = ct_t w := by
  funext r q
  unfold ct_t
  by_cases hr : r < 6
  · rw [if_pos hr, if_pos hr, h r hr]
  · rw [if_neg hr, if_neg hr]
/-- what copies are found: held at least where they hold -/
def ct_I (n m : Nat) (u v : tc_S) : Prop := sf_F u v ∧ (∀ r, r < 6 → v (16 + r) 0 = -1) ∧ (∀ r, r < 6 → ∀ q, q ≤ m → sp_r (v (16 + r) q)) ∧ ∀ S, tp_cs n (pv u 9) S → ∀ q, q ≤ m → ∀ r, r < 6 → ∀ b, S q r b → v (16 + r) q = nI b
def ct_H (n : Nat) (u : tc_S) (i : Nat) (v : tc_S) : Prop := (∀ r, r < 6 → sp_r (v 22 r)) ∧ ∀ S, tp_cs n (pv u 9) S → ∀ q, tp_nx n (pv u 9) i q → ∀ r, r < 6 → ∀ b, S q r b → v 22 r = nI b
def ct_E (u : tc_S) (i : Nat) (t : Nat → Nat → Int32) (w : tc_S) : Prop := ∀ r, r < 6 → w 22 r = tp_fb (pv u 9) i (fun r => t r i) r
def ct_N (q : Nat) (w : tc_S) : Prop := ∀ r, r < 6 → w (16 + r) q = -1 ∨ w (16 + r) q = w 22 r
theorem ct_fol {n m i : Nat} {u v : tc_S} (hP : ∀ i, i < n → tp_line (pv u 9) i) (hi : i < n) (him : i ≤ m) (h : ct_I n m u v) : ct_I n m u (sp_fol i v) ∧ ct_H n u i (sp_fol i v) ∧ ct_t (sp_fol i v) = ct_t v ∧ ct_E u i (ct_t v) (sp_fol i v) := by
  obtain ⟨hF, h0, hr, hA⟩ := h
  have o : ∀ q, q ≠ 22 → sp_fol i v q = v q := fun q hq => tc_row_ne hq
  have e22 : ∀ r, r < 6 → sp_fol i v 22 r = tp_fb (pv u 9) i (fun r => v (16 + r) i) r := fun r hr => by
    unfold sp_fol
    rw [tc_row_in hr]
    exact fb_congr (fun j hj => sf_Fpv hF (by decide) hj) rfl
  refine ⟨⟨hF.tr (sp_F1 i v), fun r h6 => by rw [o (16 + r) (by omega)]; exact h0 r h6, fun r h6 q hq => by rw [o (16 + r) (by omega)]; exact hr r h6 q hq, fun S hS q hq r h6 b hs => by rw [o (16 + r) (by omega)]; exact hA S hS q hq r h6 b hs⟩, ⟨fun r h6 => ?_, fun S hS q hq r h6 b hs => ?_⟩, ct_t_i (fun r h6 => o (16 + r) (by omega)), fun r h6 => ?_⟩
  · rw [e22 r h6]; exact fb_r (hP i hi) (hr r h6 i him)
  · rw [e22 r h6]; exact fb_S hS hP hi hq (fun r b h6 hs => hA S hS i him r h6 b hs) h6 hs
  · rw [e22 r h6]
    exact fb_congr (fun _ _ => rfl) (by unfold ct_t; rw [if_pos h6])
theorem ct_col {v : tc_S} {q r q' : Nat} {f : Nat → Int32} (hr : r < 6) : tc_col v 16 q f 6 (16 + r) q' = if q' = q then f r else v (16 + r) q' := by
  rw [tc_col_in hr]; unfold upd; rfl
theorem ct_nar {n i q : Nat} {u v : tc_S} (hn : n ≤ 16) (hi : i < n) (hq : tp_nx n (pv u 9) i q) (h : ct_I n n u v) (hH : ct_H n u i v) : ct_I n n u (sp_nar q v) ∧ ct_H n u i (sp_nar q v) ∧ ct_Z (sp_nar q v) 17 ≤ ct_Z v 17 ∧ (sp_nch q v = 0 → sp_nar q v = v ∧ ct_N q v) ∧ (¬ sp_nch q v = 0 → ct_Z (sp_nar q v) 17 < ct_Z v 17) := by
  obtain ⟨hF, h0, hr, hA⟩ := h
  have hqn : q ≤ n := by
    rcases hq with e | e
    · omega
    · rw [e]; exact tp_tg_le hi
  have val : ∀ r q', r < 6 → sp_nar q v (16 + r) q' = v (16 + r) q' ∨ (sp_nar q v (16 + r) q' = -1 ∧ q' = q ∧ tc_pn v q r) := fun r q' h6 => by
    unfold sp_nar
    rw [ct_col h6]
    by_cases e : q' = q
    · rw [if_pos e]
      unfold tc_pf
      by_cases z : tc_pn v q r
      · rw [if_pos z]; exact Or.inr ⟨rfl, e, z⟩
      · rw [if_neg z, e]; exact Or.inl rfl
    · rw [if_neg e]; exact Or.inl rfl
  have e22 : sp_nar q v 22 = v 22 := tc_col_out (by omega)
  have mono : ∀ q' r, r < 6 → sp_nar q v (16 + r) q' = v (16 + r) q' ∨ sp_nar q v (16 + r) q' = -1 := fun q' r h6 => (val r q' h6).imp id (fun z => z.1)
  refine ⟨⟨hF.tr (sp_F3 q v), fun r h6 => ?_, fun r h6 q' hq' => ?_, fun S hS q' hq' r h6 b hs => ?_⟩, ⟨fun r h6 => by rw [e22]; exact hH.1 r h6, fun S hS q' hq' r h6 b hs => by rw [e22]; exact hH.2 S hS q' hq' r h6 b hs⟩, ct_Z_le mono 17, fun hz => ?_, fun hz => ?_⟩
  · rcases mono 0 r h6 with e | e
    · rw [e]; exact h0 r h6
    · exact e
  · rcases mono q' r h6 with e | e
    · rw [e]; exact hr r h6 q' hq'
    · rw [e]; exact Or.inl rfl
  · rcases val r q' h6 with e | ⟨e, e1, e2⟩
    · rw [e]; exact hA S hS q' hq' r h6 b hs
    · exfalso
      subst e1
      refine e2.2 ?_
      rw [hA S hS q' hq' r h6 b hs, hH.2 S hS q' hq r h6 b hs]
  · have no : ∀ r, r < 6 → ¬ tc_pn v q r := fun r h6 z => tp_b_q hz ⟨r, h6, z⟩
    refine ⟨?_, fun r h6 => ?_⟩
    · funext k j
      by_cases hk : 16 ≤ k ∧ k < 22
      · have hk' : k = 16 + (k - 16) := by omega
        rw [hk']
        rcases val (k - 16) j (by omega) with e | ⟨-, -, e⟩
        · exact e
        · exact absurd e (no _ (by omega))
      · unfold sp_nar; rw [tc_col_out (by omega)]
    · by_cases z : v (16 + r) q = -1
      · exact Or.inl z
      · exact Or.inr (Classical.byContradiction fun y => no r h6 ⟨z, y⟩)
  · obtain ⟨r, h6, z⟩ := tp_b_p hz
    refine ct_Z_lt mono h6 (q0 := q) ?_ z.1 17 (by omega)
    unfold sp_nar
    rw [ct_col h6, if_pos rfl]
    unfold tc_pf
    rw [if_pos z]
/-- what Copies.find finds -/
theorem sp_c {n : Nat} {u : tc_S} (hn : n ≤ 16) (hP : ∀ i, i < n → tp_line (pv u 9) i) : sf_F u (sp_find n u) ∧ (∀ r, r < 6 → ∀ q, q ≤ n → sp_r (sp_find n u (16 + r) q)) ∧ ∀ q, q ≤ n → ∀ r, r < 6 → ∀ b, b < 6 → (sp_find n u (16 + r) q = nI b ↔ tp_c n (pv u 9) q r b) := by
  have h0 : ct_I n 0 u (tc_col u 16 0 (fun _ => -1) 6) := by
    refine ⟨fun q hq => tc_col_out (by omega), fun r hr => by rw [ct_col hr, if_pos rfl], fun r hr q hq => ?_, fun S hS q hq r hr b hs => ?_⟩
    · rw [ct_col hr, if_pos (by omega)]; exact Or.inl rfl
    · rw [show q = 0 by omega] at hs; exact absurd hs (hS.1 r b)
  have h1 : ∀ i, i ≤ n → ct_I n i u (sf_1 sp_fol sp_put i (tc_col u 16 0 (fun _ => -1) 6)) := by
    intro i
    induction i with
    | zero => intro _; exact h0
    | succ i ih =>
      intro hi
      have hI := ih (by omega)
      show ct_I n (i + 1) u (sp_put (i + 1) (sp_fol i (sf_1 sp_fol sp_put i _)))
      generalize sf_1 sp_fol sp_put i (tc_col u 16 0 (fun _ => -1) 6) = v at hI ⊢
      obtain ⟨⟨a1, a2, a3, a4⟩, ⟨b1, b2⟩, -, -⟩ := ct_fol hP (by omega) (Nat.le_refl i) hI
      have val : ∀ r q', r < 6 → sp_put (i + 1) (sp_fol i v) (16 + r) q' = if q' = i + 1 then sp_fol i v 22 r else sp_fol i v (16 + r) q' := fun r q' h6 => by unfold sp_put; rw [ct_col h6]
      refine ⟨a1.tr (sp_F2 _ _), fun r hr => by rw [val r 0 hr, if_neg (by omega)]; exact a2 r hr, fun r hr q hq => ?_, fun S hS q hq r hr b hs => ?_⟩
      · rw [val r q hr]
        by_cases e : q = i + 1
        · rw [if_pos e]; exact b1 r hr
        · rw [if_neg e]; exact a3 r hr q (by omega)
      · rw [val r q hr]
        by_cases e : q = i + 1
        · rw [if_pos e]; rw [e] at hs; exact b2 S hS (i + 1) (Or.inl rfl) r hr b hs
        · rw [if_neg e]; exact a4 S hS q (by omega) r hr b hs
  have hpass := fun v (hv : ct_I n n u v) => sf_pass (fol := sp_fol) (nar := sp_nar) (nch := sp_nch) (tg := fun i v => tp_tg n (pv v 9) i) (n := n) (I := ct_I n n u) (H := ct_H n u) (tb := ct_t) (E := ct_E u) (N := ct_N) (M := fun v => ct_Z v 17) (nx := tp_nx n (pv u 9))
    (fun v w e => ct_Z_congr (fun q r hr => ct_t_e e hr) 17) (fun i v hi h => ct_fol hP hi (by omega) h) (fun i q v hi hq h hH => ct_nar hn hi hq h hH) (fun i v hi h => Or.inr (sf_Ftg h.1 (by decide))) (fun i v hi h q hq => hq.imp id (fun e => e.trans (sf_Ftg h.1 (by decide)).symm)) (fun i hi => Or.inl rfl) v hv n (Nat.le_refl n)
  have hend := sf_end (fol := sp_fol) (nar := sp_nar) (nch := sp_nch) (tg := fun i v => tp_tg n (pv v 9) i) (n := n) (I := ct_I n n u) (M := fun v => ct_Z v 17) (C := fun v => ∀ i, i < n → ∀ q, tp_nx n (pv u 9) i q → ∀ r, r < 6 → v (16 + r) q = -1 ∨ v (16 + r) q = tp_fb (pv u 9) i (fun r => v (16 + r) i) r)
    (fun v hv => by
      obtain ⟨p1, p2, p3, p4⟩ := hpass v hv
      refine ⟨p1, fun hz i hi q hq r hr => ?_, p4⟩
      obtain ⟨e1, e2⟩ := p3 hz
      obtain ⟨w, w1, w2, w3⟩ := e2 i hi q hq
      rw [ct_t_e (e1.trans w1.symm) hr]
      rcases w3 r hr with z | z
      · exact Or.inl z
      · refine Or.inr (z.trans ((w2 r hr).trans (fb_congr (fun _ _ => rfl) ?_)))
        show ct_t v r i = _
        rw [← e1]; unfold ct_t; rw [if_pos hr]) 1000000 _ (h1 n (Nat.le_refl n)) (by have := ct_Z_bd (sf_1 sp_fol sp_put n (tc_col u 16 0 (fun _ => -1) 6)) 17; omega)
  obtain ⟨⟨f1, f2, f3, f4⟩, f5⟩ := hend
  refine ⟨f1, f3, fun q hq r hr b hb => ⟨fun h => ?_, fun ⟨S, hS, hs⟩ => f4 S hS q hq r hr b hs⟩⟩
  refine ⟨fun q r b => q ≤ n ∧ r < 6 ∧ b < 6 ∧ sp_find n u (16 + r) q = nI b, ⟨fun r b z => ?_, fun i q hi hq r b z => ?_⟩, hq, hr, hb, h⟩
  · have := f2 r z.2.1
    have z4 := z.2.2.2
    unfold sp_find at z4
    rw [this] at z4
    exact nI_m1' (by omega) z4.symm
  · obtain ⟨z1, z2, z3, z4⟩ := z
    have z5 := z4
    unfold sp_find at z5
    rcases f5 i hi q hq r z2 with e | e
    · rw [e] at z5; exact absurd z5.symm (nI_m1' (by omega))
    · rw [e] at z5
      rcases fb_D (hP i hi) z2 z3 z5 with y | ⟨y1, y2⟩
      · exact Or.inl y
      · exact Or.inr ⟨⟨by omega, z2, z3, y1⟩, y2⟩
