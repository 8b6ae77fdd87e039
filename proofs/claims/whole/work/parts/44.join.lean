/-! both sides, side by side -/
abbrev jA (n : Nat) (u : tc_S) : Prop := (n ≤ 16) ∧ (u 1 1 = nI n) ∧ (u 56 1 = nI n) ∧ (∀ j i, j < 4 → i < n → u (57 + j) i = u (3 + j) i) ∧ (∀ i, i < n → tp_line (pv u 3) i) ∧ (∀ i, i < n → ¬ pv u 3 0 i = -1) ∧ (sp_ok u) ∧ (u 56 6 = u 0 5) ∧ (u 0 5 = 0 ∨ u 0 5 = 1)
theorem jA.hn {n : Nat} {u : tc_S} (h : jA n u) : n ≤ 16 := h.1
theorem jA.s1 {n : Nat} {u : tc_S} (h : jA n u) : u 1 1 = nI n := h.2.1
theorem jA.s2 {n : Nat} {u : tc_S} (h : jA n u) : u 56 1 = nI n := h.2.2.1
theorem jA.eq {n : Nat} {u : tc_S} (h : jA n u) : ∀ j i, j < 4 → i < n → u (57 + j) i = u (3 + j) i := h.2.2.2.1
theorem jA.li {n : Nat} {u : tc_S} (h : jA n u) : ∀ i, i < n → tp_line (pv u 3) i := h.2.2.2.2.1
theorem jA.ne {n : Nat} {u : tc_S} (h : jA n u) : ∀ i, i < n → ¬ pv u 3 0 i = -1 := h.2.2.2.2.2.1
theorem jA.ok {n : Nat} {u : tc_S} (h : jA n u) : sp_ok u := h.2.2.2.2.2.2.1
theorem jA.md {n : Nat} {u : tc_S} (h : jA n u) : u 56 6 = u 0 5 := h.2.2.2.2.2.2.2.1
theorem jA.m2 {n : Nat} {u : tc_S} (h : jA n u) : u 0 5 = 0 ∨ u 0 5 = 1 := h.2.2.2.2.2.2.2.2
abbrev jR (n q t c : Nat) (u : tc_S) : Prop := (q ≤ n) ∧ (t ≤ 200) ∧ (c ≤ t) ∧ (u 47 4 = nI q) ∧ (u 56 19 = nI q) ∧ (u 47 5 = nI t) ∧ (u 56 20 = nI t) ∧ (u 48 2 = nI c) ∧ (u 51 2 = nI c) ∧ (u 56 24 = nI c) ∧ (∀ r, r < 6 → u 49 r = u 72 (0 + r)) ∧ (∀ r, r < 6 → u 52 r = u 72 (6 + r)) ∧ (∀ v, v < 3 → u 55 v = u 74 v ∧ (u 74 v = 0 ∨ u 74 v = 1) ∧ (u 74 v = 1 → u 54 v = u 73 v)) ∧ (∀ j, j < c → u 50 j = u 75 (2 * j + 0) ∧ u 53 j = u 75 (2 * j + 1))
theorem jR.q1 {n q t c : Nat} {u : tc_S} (h : jR n q t c u) : q ≤ n := h.1
theorem jR.t1 {n q t c : Nat} {u : tc_S} (h : jR n q t c u) : t ≤ 200 := h.2.1
theorem jR.c1 {n q t c : Nat} {u : tc_S} (h : jR n q t c u) : c ≤ t := h.2.2.1
theorem jR.a1 {n q t c : Nat} {u : tc_S} (h : jR n q t c u) : u 47 4 = nI q := h.2.2.2.1
theorem jR.a2 {n q t c : Nat} {u : tc_S} (h : jR n q t c u) : u 56 19 = nI q := h.2.2.2.2.1
theorem jR.b1 {n q t c : Nat} {u : tc_S} (h : jR n q t c u) : u 47 5 = nI t := h.2.2.2.2.2.1
theorem jR.b2 {n q t c : Nat} {u : tc_S} (h : jR n q t c u) : u 56 20 = nI t := h.2.2.2.2.2.2.1
theorem jR.o1 {n q t c : Nat} {u : tc_S} (h : jR n q t c u) : u 48 2 = nI c := h.2.2.2.2.2.2.2.1
theorem jR.o2 {n q t c : Nat} {u : tc_S} (h : jR n q t c u) : u 51 2 = nI c := h.2.2.2.2.2.2.2.2.1
theorem jR.o3 {n q t c : Nat} {u : tc_S} (h : jR n q t c u) : u 56 24 = nI c := h.2.2.2.2.2.2.2.2.2.1
theorem jR.r1 {n q t c : Nat} {u : tc_S} (h : jR n q t c u) : ∀ r, r < 6 → u 49 r = u 72 (0 + r) := h.2.2.2.2.2.2.2.2.2.2.1
theorem jR.r2 {n q t c : Nat} {u : tc_S} (h : jR n q t c u) : ∀ r, r < 6 → u 52 r = u 72 (6 + r) := h.2.2.2.2.2.2.2.2.2.2.2.1
theorem jR.v1 {n q t c : Nat} {u : tc_S} (h : jR n q t c u) : ∀ v, v < 3 → u 55 v = u 74 v ∧ (u 74 v = 0 ∨ u 74 v = 1) ∧ (u 74 v = 1 → u 54 v = u 73 v) := h.2.2.2.2.2.2.2.2.2.2.2.2.1
theorem jR.p1 {n q t c : Nat} {u : tc_S} (h : jR n q t c u) : ∀ j, j < c → u 50 j = u 75 (2 * j + 0) ∧ u 53 j = u 75 (2 * j + 1) := h.2.2.2.2.2.2.2.2.2.2.2.2.2
abbrev jM (n : Nat) (u : tc_S) : Prop := (u 7 1 = nI n) ∧ (∀ j i, j < 4 → i < n → u (57 + j) (16 + i) = u (9 + j) i) ∧ (∀ i, i < n → tp_line (pv u 9) i) ∧ (∀ i, i < n → pv u 9 0 i = pv u 3 0 i ∨ (pv u 9 0 i = -1 ∧ (pv u 3 0 i = 0 ∨ pv u 3 0 i = 1 ∨ pv u 3 0 i = 2))) ∧ (fc_R n (pm u 0) (pm u 16) (u 68) (u 69)) ∧ (∀ q, q ≤ n → ∀ x, x < 9 → (∀ r, r < 6 → (bq (u (26 + x) q) r = true ↔ tp_k n (pm u 0) (pm u 16) q x r)) ∧ ∀ c, (tp_v n (pm u 0) q x c ↔ bq (u (26 + x) q) 6 = true ∧ u (36 + x) q = c)) ∧ (∀ x, x ≤ n → u 65 x = 1) ∧ (∃ q t c, jR n q t c u)
theorem jM.s7 {n : Nat} {u : tc_S} (h : jM n u) : u 7 1 = nI n := h.1
theorem jM.eq {n : Nat} {u : tc_S} (h : jM n u) : ∀ j i, j < 4 → i < n → u (57 + j) (16 + i) = u (9 + j) i := h.2.1
theorem jM.li {n : Nat} {u : tc_S} (h : jM n u) : ∀ i, i < n → tp_line (pv u 9) i := h.2.2.1
theorem jM.kd {n : Nat} {u : tc_S} (h : jM n u) : ∀ i, i < n → pv u 9 0 i = pv u 3 0 i ∨ (pv u 9 0 i = -1 ∧ (pv u 3 0 i = 0 ∨ pv u 3 0 i = 1 ∨ pv u 3 0 i = 2)) := h.2.2.2.1
theorem jM.fc {n : Nat} {u : tc_S} (h : jM n u) : fc_R n (pm u 0) (pm u 16) (u 68) (u 69) := h.2.2.2.2.1
theorem jM.ck {n : Nat} {u : tc_S} (h : jM n u) : ∀ q, q ≤ n → ∀ x, x < 9 → (∀ r, r < 6 → (bq (u (26 + x) q) r = true ↔ tp_k n (pm u 0) (pm u 16) q x r)) ∧ ∀ c, (tp_v n (pm u 0) q x c ↔ bq (u (26 + x) q) 6 = true ∧ u (36 + x) q = c) := h.2.2.2.2.2.1
theorem jM.re {n : Nat} {u : tc_S} (h : jM n u) : ∀ x, x ≤ n → u 65 x = 1 := h.2.2.2.2.2.2.1
theorem jM.rn {n : Nat} {u : tc_S} (h : jM n u) : ∃ q t c, jR n q t c u := h.2.2.2.2.2.2.2
def jI (n : Nat) (u : tc_S) : Prop := jA n u ∧ (u 0 5 = 1 → jM n u)
theorem pm_F {u w : tc_S} {o : Nat} (h : ∀ j, j < 4 → w (57 + j) = u (57 + j)) : pm w o = pm u o := by
  funext j i
  unfold pm
  by_cases hj : j < 4
  · rw [if_pos hj, if_pos hj, h j hj]
  · rw [if_neg hj, if_neg hj]
theorem sp_ok_F {u w : tc_S} (h : ∀ q, 16 ≤ q → q < 23 → w q = u q) (k : sp_ok u) : sp_ok w := ⟨fun r hr q hq => by rw [h (16 + r) (by omega) (by omega)]; exact k.1 r hr q hq, fun r hr => by rw [h 22 (by omega) (by omega)]; exact k.2 r hr⟩
theorem jA.same {n : Nat} {u w : tc_S} (h : jA n u) (h1 : ∀ q, q < 24 → w q = u q) (h3 : ∀ j, j < 4 → ∀ i, i < n → w (57 + j) i = u (57 + j) i) (h2 : w 56 1 = u 56 1) (h4 : w 56 6 = u 56 6) : jA n w := by
  refine ⟨?_, ?_, ?_, ?_, ?_, ?_, ?_, ?_, ?_⟩
  · exact h.hn
  · exact by rw [h1 1 (by decide)]; exact h.s1
  · exact by rw [h2]; exact h.s2
  · exact fun j i hj hi => by rw [h3 j hj i hi, h1 (3 + j) (by omega)]; exact h.eq j i hj hi
  · exact fun i hi => sf_Fline (u := u) (fun q hq => h1 q (by omega)) (by decide) (h.li i hi)
  · exact fun i hi => by rw [show pv w 3 0 i = pv u 3 0 i from congrFun (h1 3 (by decide)) i]; exact h.ne i hi
  · exact sp_ok_F (fun q _ hq => h1 q (by omega)) h.ok
  · exact by rw [h4, h1 0 (by decide)]; exact h.md
  · exact by rw [h1 0 (by decide)]; exact h.m2
theorem jR.same {n q t c : Nat} {u w : tc_S} (h : jR n q t c u) (h1 : ∀ q, 47 ≤ q → q < 56 → w q = u q) (h2 : ∀ j, j = 19 ∨ j = 20 ∨ j = 24 → w 56 j = u 56 j) (h3 : ∀ q, 72 ≤ q → q < 76 → w q = u q) : jR n q t c w := by
  refine ⟨?_, ?_, ?_, ?_, ?_, ?_, ?_, ?_, ?_, ?_, ?_, ?_, ?_, ?_⟩
  · exact h.q1
  · exact h.t1
  · exact h.c1
  · exact by rw [h1 47 (by decide) (by decide)]; exact h.a1
  · exact by rw [h2 19 (by decide)]; exact h.a2
  · exact by rw [h1 47 (by decide) (by decide)]; exact h.b1
  · exact by rw [h2 20 (by decide)]; exact h.b2
  · exact by rw [h1 48 (by decide) (by decide)]; exact h.o1
  · exact by rw [h1 51 (by decide) (by decide)]; exact h.o2
  · exact by rw [h2 24 (by decide)]; exact h.o3
  · exact fun r hr => by rw [h1 49 (by decide) (by decide), h3 72 (by decide) (by decide)]; exact h.r1 r hr
  · exact fun r hr => by rw [h1 52 (by decide) (by decide), h3 72 (by decide) (by decide)]; exact h.r2 r hr
  · exact fun v hv => by rw [h1 55 (by decide) (by decide), h1 54 (by decide) (by decide), h3 74 (by decide) (by decide), h3 73 (by decide) (by decide)]; exact h.v1 v hv
  · exact fun j hj => by rw [h1 50 (by decide) (by decide), h1 53 (by decide) (by decide), h3 75 (by decide) (by decide)]; exact h.p1 j hj
theorem jM.same {n : Nat} {u w : tc_S} (h : jM n u) (h1 : ∀ q, q < 47 → w q = u q) (h2 : ∀ q, 57 ≤ q → q < 72 → w q = u q) (h3 : ∃ q t c, jR n q t c w) : jM n w := by
  refine ⟨?_, ?_, ?_, ?_, ?_, ?_, ?_, ?_⟩
  · exact by rw [h1 7 (by decide)]; exact h.s7
  · exact fun j i hj hi => by rw [h2 (57 + j) (by omega) (by omega), h1 (9 + j) (by omega)]; exact h.eq j i hj hi
  · exact fun i hi => sf_Fline (u := u) (fun q hq => h1 q (by omega)) (by decide) (h.li i hi)
  · exact fun i hi => by rw [show pv w 9 0 i = pv u 9 0 i from congrFun (h1 9 (by decide)) i, show pv w 3 0 i = pv u 3 0 i from congrFun (h1 3 (by decide)) i]; exact h.kd i hi
  · exact by rw [pm_F (fun j hj => h2 (57 + j) (by omega) (by omega)), pm_F (fun j hj => h2 (57 + j) (by omega) (by omega)), h2 68 (by decide) (by decide), h2 69 (by decide) (by decide)]; exact h.fc
  · exact fun q hq x hx => by
      rw [pm_F (fun j hj => h2 (57 + j) (by omega) (by omega)), pm_F (fun j hj => h2 (57 + j) (by omega) (by omega)), h1 (26 + x) (by omega), h1 (36 + x) (by omega)]
      exact h.ck q hq x hx
  · exact fun x hx => by rw [h2 65 (by decide) (by decide)]; exact h.re x hx
  · exact h3
/-- nothing has changed but what was answered -/
theorem jI.same {n : Nat} {u w : tc_S} (h : jI n u) (h1 : ∀ q, q ≠ 56 → q ≠ 76 → w q = u q) (h2 : ∀ j, j ≠ 0 → j ≠ 26 → w 56 j = u 56 j) : jI n w :=
  ⟨h.1.same (fun q hq => h1 q (by omega) (by omega)) (fun j hj i _ => by rw [h1 (57 + j) (by omega) (by omega)]) (h2 1 (by decide) (by decide)) (h2 6 (by decide) (by decide)), fun hm => by
    rw [h1 0 (by decide) (by decide)] at hm
    have hM := h.2 hm
    refine hM.same (fun q hq => h1 q (by omega) (by omega)) (fun q h3 h4 => h1 q (by omega) (by omega)) ?_
    obtain ⟨q, t, c, hR⟩ := hM.rn
    exact ⟨q, t, c, hR.same (fun q h3 h4 => h1 q (by omega) (by omega)) (fun j hj => h2 j (by omega) (by omega)) (fun q h3 h4 => h1 q (by omega) (by omega))⟩⟩
/-- a line is set behind the others -/
def j_a (k a1 a2 a3 : Int32) (j : Nat) : Int32 := if j = 0 then k else if j = 1 then a1 else if j = 2 then a2 else a3
def j_ap (n : Nat) (k a1 a2 a3 y : Int32) (u : tc_S) : tc_S := sd_app n k a1 a2 a3 (tc_up (tc_up (st_app n k a1 a2 a3 u) 76 0 y) 56 0 0)
theorem j_app {n : Nat} {u : tc_S} {k a1 a2 a3 y : Int32} (h : jI n u) (hn : n < 16) (hl : tp_line (fun j _ => j_a k a1 a2 a3 j) n) (hk : ¬ k = -1) : jI (n + 1) (j_ap n k a1 a2 a3 y u) := by
  have h := h.1
  have v3 : ∀ j i, j < 4 → j_ap n k a1 a2 a3 y u (3 + j) i = if i = n then j_a k a1 a2 a3 j else u (3 + j) i := fun j i hj => by
    have : j = 0 ∨ j = 1 ∨ j = 2 ∨ j = 3 := by omega
    rcases this with rfl | rfl | rfl | rfl <;> simp [j_ap, sd_app, st_app, tc_up_v, j_a]
  have v57 : ∀ j i, j < 4 → j_ap n k a1 a2 a3 y u (57 + j) i = if i = n then j_a k a1 a2 a3 j else u (57 + j) i := fun j i hj => by
    have : j = 0 ∨ j = 1 ∨ j = 2 ∨ j = 3 := by omega
    rcases this with rfl | rfl | rfl | rfl <;> simp [j_ap, sd_app, st_app, tc_up_v, j_a]
  have e05 : j_ap n k a1 a2 a3 y u 0 5 = 0 := by simp [j_ap, sd_app, st_app, tc_up_v]
  refine ⟨⟨by omega, by simp [j_ap, sd_app, st_app, tc_up_v], by simp [j_ap, sd_app, st_app, tc_up_v], fun j i hj hi => ?_, fun i hi => ?_, fun i hi => ?_, sp_ok_F (fun q h1 h2 => ?_) h.ok, by simp [j_ap, sd_app, st_app, tc_up_v], Or.inl e05⟩, fun hm => by rw [e05] at hm; exact absurd hm (by decide)⟩
  · rw [v3 j i hj, v57 j i hj]
    by_cases e : i = n
    · rw [if_pos e, if_pos e]
    · rw [if_neg e, if_neg e]; exact h.eq j i hj (by omega)
  · by_cases e : i = n
    · have g : ∀ j, j < 4 → pv (j_ap n k a1 a2 a3 y u) 3 j i = j_a k a1 a2 a3 j := fun j hj => (v3 j i hj).trans (if_pos e)
      unfold tp_line at hl ⊢
      rw [g 0 (by decide), g 1 (by decide), g 2 (by decide), g 3 (by decide)]
      exact hl
    · have g : ∀ j, j < 4 → pv (j_ap n k a1 a2 a3 y u) 3 j i = pv u 3 j i := fun j hj => (v3 j i hj).trans (if_neg e)
      have := h.li i (by omega)
      unfold tp_line at this ⊢
      rw [g 0 (by decide), g 1 (by decide), g 2 (by decide), g 3 (by decide)]
      exact this
  · show ¬ j_ap n k a1 a2 a3 y u (3 + 0) i = -1
    rw [v3 0 i (by decide)]
    by_cases e : i = n
    · rw [if_pos e]; exact hk
    · rw [if_neg e]; exact h.ne i (by omega)
  · unfold j_ap sd_app st_app
    rw [tc_up_ne (by omega), tc_up_ne (by omega), tc_up_ne (by omega), tc_up_ne (by omega), tc_up_ne (by omega), tc_up_ne (by omega), tc_up_ne (by omega), tc_up_ne (by omega), tc_up_ne (by omega), tc_up_ne (by omega), tc_up_ne (by omega), tc_up_ne (by omega), tc_up_ne (by omega), tc_up_ne (by omega)]
/-- all lines are taken away -/
def j_cl (u : tc_S) : tc_S := tc_up (tc_up (tc_up (tc_up (tc_up u 1 1 0) 0 5 0) 56 0 0) 56 1 0) 56 6 0
theorem j_clear {n : Nat} {u : tc_S} (h : jI n u) : jI 0 (j_cl u) := by
  have e05 : j_cl u 0 5 = 0 := by simp [j_cl, tc_up_v]
  refine ⟨⟨by omega, by simp [j_cl, tc_up_v]; rfl, by simp [j_cl, tc_up_v]; rfl, fun j i hj hi => absurd hi (by omega), fun i hi => absurd hi (by omega), fun i hi => absurd hi (by omega), sp_ok_F (fun q h1 h2 => ?_) h.1.ok, by simp [j_cl, tc_up_v], Or.inl e05⟩, fun hm => by rw [e05] at hm; exact absurd hm (by decide)⟩
  unfold j_cl
  rw [tc_up_ne (by omega), tc_up_ne (by omega), tc_up_ne (by omega), tc_up_ne (by omega), tc_up_ne (by omega)]
/-! a run begins anew -/
theorem sn_o {u : tc_S} {q : Nat} (h : q < 47 ∨ q = 50 ∨ q = 53 ∨ q = 54 ∨ 56 ≤ q) : sn_begin u q = u q := by
  unfold sn_begin sn_0
  rw [tc_up_ne (by omega), tc_up_ne (by omega), tc_row_ne (by omega), tc_up_ne (by omega), tc_row_ne (by omega), tc_up_ne (by omega), tc_row_ne (by omega)]
theorem bg_o {u : tc_S} {q : Nat} (h : q ≠ 56) (h2 : q ≠ 72) (h3 : q ≠ 74) : bg_ u q = u q := by
  unfold bg_
  rw [tc_row_ne h3, tc_row_ne h2, tc_up_ne h, tc_up_ne h, tc_up_ne h]
theorem sn_zero {n : Nat} {w : tc_S} {v : tc_S} (h1 : ∀ q, 47 ≤ q → q < 56 → w q = sn_begin v q) (h2 : w 56 19 = 0) (h3 : w 56 20 = 0) (h4 : w 56 24 = 0) (h5 : ∀ r, r < 12 → w 72 r = 0) (h6 : ∀ r, r < 3 → w 74 r = 0) : jR n 0 0 0 w := by
  refine ⟨?_, ?_, ?_, ?_, ?_, ?_, ?_, ?_, ?_, ?_, ?_, ?_, ?_, ?_⟩
  · exact Nat.zero_le _
  · exact Nat.zero_le _
  · exact Nat.le_refl _
  · exact by rw [h1 47 (by decide) (by decide)]; unfold sn_begin; rw [tc_up_at (by decide), tc_up_self]; rfl
  · exact h2
  · exact by rw [h1 47 (by decide) (by decide)]; unfold sn_begin; rw [tc_up_self]; rfl
  · exact h3
  · exact by rw [h1 48 (by decide) (by decide)]; unfold sn_begin sn_0; rw [tc_up_ne (by decide), tc_up_ne (by decide), tc_row_ne (by decide), tc_up_ne (by decide), tc_row_ne (by decide), tc_up_self]; rfl
  · exact by rw [h1 51 (by decide) (by decide)]; unfold sn_begin sn_0; rw [tc_up_ne (by decide), tc_up_ne (by decide), tc_row_ne (by decide), tc_up_self]; rfl
  · exact h4
  · exact fun r hr => by rw [h1 49 (by decide) (by decide), h5 _ (by omega)]; unfold sn_begin sn_0; rw [tc_up_ne (by decide), tc_up_ne (by decide), tc_row_ne (by decide), tc_up_ne (by decide), tc_row_ne (by decide), tc_up_ne (by decide), tc_row_in hr]
  · exact fun r hr => by rw [h1 52 (by decide) (by decide), h5 _ (by omega)]; unfold sn_begin sn_0; rw [tc_up_ne (by decide), tc_up_ne (by decide), tc_row_ne (by decide), tc_up_ne (by decide), tc_row_in hr]
  · exact fun r hr => by
      refine ⟨?_, Or.inl (h6 r hr), fun z => absurd ((h6 r hr).symm.trans z) (by decide)⟩
      rw [h1 55 (by decide) (by decide), h6 r hr]; unfold sn_begin; rw [tc_up_ne (by decide), tc_up_ne (by decide), tc_row_in hr]
  · exact fun j hj => absurd hj (by omega)
theorem j_restart {n : Nat} {u : tc_S} (h : jI n u) (hm : u 0 5 = 1) : jI n (bg_ (tc_up (sn_begin u) 56 0 0)) ∧ bg_ (tc_up (sn_begin u) 56 0 0) 56 0 = 0 := by
  have hM := h.2 hm
  have o : ∀ q, q ≠ 56 → q ≠ 72 → q ≠ 74 → bg_ (tc_up (sn_begin u) 56 0 0) q = sn_begin u q := fun q h1 h2 h3 => by rw [bg_o h1 h2 h3, tc_up_ne h1]
  have o56 : ∀ j, bg_ (tc_up (sn_begin u) 56 0 0) 56 j = if j = 24 then 0 else if j = 20 then 0 else if j = 19 then 0 else if j = 0 then 0 else u 56 j := fun j => by
    unfold bg_; rw [tc_row_ne (by decide), tc_row_ne (by decide), tc_up_v, if_pos rfl, tc_up_v, if_pos rfl, tc_up_v, if_pos rfl, tc_up_v, if_pos rfl, sn_o (by omega)]
  refine ⟨⟨h.1.same (fun q hq => by rw [o q (by omega) (by omega) (by omega), sn_o (by omega)]) (fun j hj i _ => by rw [o (57 + j) (by omega) (by omega) (by omega), sn_o (by omega)]) (o56 1) (o56 6), fun _ => hM.same (fun q hq => by rw [o q (by omega) (by omega) (by omega), sn_o (by omega)]) (fun q h1 h2 => by rw [o q (by omega) (by omega) (by omega), sn_o (by omega)]) ⟨0, 0, 0, ?_⟩⟩, o56 0⟩
  refine sn_zero (v := u) (fun q h1 h2 => o q (by omega) (by omega) (by omega)) (o56 19) (o56 20) (o56 24) (fun r hr => ?_) (fun r hr => ?_)
  · unfold bg_; rw [tc_row_ne (by decide), tc_row_in hr]
  · unfold bg_; rw [tc_row_in hr]
/-! a program is made shorter -/
theorem ag_g {n : Nat} {P1 Q1 : tp_P} (h : ag n P1 Q1) {i : Nat} (hi : i < n) {S : Nat → Nat → Prop} {x r : Nat} : tp_g P1 i S x r ↔ tp_g Q1 i S x r := by
  unfold tp_g; rw [ag_w h hi, h 0 i (by decide) hi, h 2 i (by decide) hi]
theorem ag_ks {n : Nat} {P Q P1 Q1 : tp_P} (h : ag n P Q) (h1 : ag n P1 Q1) {i : Nat} (hi : i < n) {S : Nat → Nat → Prop} {x r : Nat} : tp_ks P P1 i S x r ↔ tp_ks Q Q1 i S x r := by
  unfold tp_ks
  rw [h 0 i (by decide) hi, h 1 i (by decide) hi, h 2 i (by decide) hi, h1 0 i (by decide) hi]
  split
  · exact Iff.rfl
  · split
    · exact or_congr Iff.rfl (ag_g h1 hi)
    · split
      · exact ag_g h1 hi
      · exact ag_g h1 hi
theorem ag_k1 {n : Nat} {P Q P1 Q1 : tp_P} (h : ag n P Q) (h1 : ag n P1 Q1) {q x r : Nat} (hk : tp_k n P P1 q x r) : tp_k n Q Q1 q x r := by
  obtain ⟨S, hS, hs⟩ := hk
  exact ⟨S, ⟨hS.1, fun i q hi hq x r hx hr z => (ag_ks h h1 hi).mp (hS.2 i q hi ((ag_nx h hi).mpr hq) x r hx hr z)⟩, hs⟩
theorem ag_k {n : Nat} {P Q P1 Q1 : tp_P} (h : ag n P Q) (h1 : ag n P1 Q1) {q x r : Nat} : tp_k n P P1 q x r ↔ tp_k n Q Q1 q x r := ⟨ag_k1 h h1, ag_k1 h.sy h1.sy⟩
theorem ag_v1 {n : Nat} {P Q : tp_P} (h : ag n P Q) {q x : Nat} {c : Int32} (hv : tp_v n P q x c) : tp_v n Q q x c := by
  obtain ⟨S, hS, hs⟩ := hv
  refine ⟨S, ⟨hS.1, fun i q hi hq x c hx z => ?_⟩, hs⟩
  have := hS.2 i q hi ((ag_nx h hi).mpr hq) x c hx z
  unfold tp_vs at this ⊢
  rw [h 0 i (by decide) hi, h 1 i (by decide) hi, h 2 i (by decide) hi] at this
  exact this
theorem ag_v {n : Nat} {P Q : tp_P} (h : ag n P Q) {q x : Nat} {c : Int32} : tp_v n P q x c ↔ tp_v n Q q x c := ⟨ag_v1 h, ag_v1 h.sy⟩
theorem tp_it_kd {n : Nat} {P : tp_P} (hP : ∀ i, i < n → tp_line P i) {i : Nat} (hi : i < n) : ∀ k, tp_it n P k 0 i = P 0 i ∨ (tp_it n P k 0 i = -1 ∧ (P 0 i = 0 ∨ P 0 i = 1 ∨ P 0 i = 2))
  | 0 => Or.inl rfl
  | k + 1 => by
    show tp_leave n (tp_pass n (tp_it n P k)) 0 i = P 0 i ∨ (tp_leave n (tp_pass n (tp_it n P k)) 0 i = -1 ∧ (P 0 i = 0 ∨ P 0 i = 1 ∨ P 0 i = 2))
    have ih := tp_it_kd hP hi k
    generalize tp_it n P k = Q at ih ⊢
    have h1 : tp_pass n Q 0 i = P 0 i ∨ (tp_pass n Q 0 i = -1 ∧ (P 0 i = 0 ∨ P 0 i = 1 ∨ P 0 i = 2)) := by
      by_cases e : tp_e1 n Q i
      · refine Or.inr ⟨by rw [tp_pass_e hi (by decide) e]; rfl, ?_⟩
        rcases ih with z | z
        · rw [← z]; exact Or.inr (Or.inl e.1)
        · exact z.2
      · rw [tp_pass_0 hi e]; exact ih
    by_cases e : tp_dead n (tp_pass n Q) i
    · refine Or.inr ⟨by rw [tp_leave_d hi (by decide) e]; rfl, ?_⟩
      obtain ⟨r, hr, -⟩ := e
      have k := tp_w_kind hr
      rcases h1 with z | z
      · rw [← z]; exact k
      · exact z.2
    · rw [tp_leave_n hi (by decide) e]; exact h1
theorem tk_o {u : tc_S} {n q : Nat} (h : q ≠ 7) (h2 : q < 9 ∨ 13 ≤ q) : tc_take u n q = u q := by
  unfold tc_take; rw [if_neg h, if_neg (by omega)]
theorem tk_p {u : tc_S} {n j i : Nat} (hj : j < 4) (hi : i < n) : tc_take u n (9 + j) i = u (3 + j) i := by
  unfold tc_take va_cpy
  rw [if_neg (by omega), if_pos (by omega), if_pos (by omega), show 9 + j - 6 = 3 + j by omega, show 0 + (i - 0) = i by omega]
/-- what shorten needs, and what it does on both sides -/
theorem j_sh {n : Nat} {u : tc_S} (h : jI n u) : sp_I n (tc_take u n) ∧ sp_I n (st_r n u).2 ∧ (∀ i, i < n → tp_line (pv (st_r n u).2 3) i ∧ ¬ pv (st_r n u).2 3 0 i = -1) ∧ st_sh n u 56 1 = nI n ∧ (∀ i, i < n → tp_line (pm (st_sh n u) 0) i) ∧ (∀ i, i < n → ¬ pm (st_sh n u) 0 0 i = -1) ∧
    ∀ k w, sh_R n (nr n (pm (st_sh n u) 0)) k w → sh_E (st_sh n u) w → jI n w ∧ nI (st_r n u).1 = nI k ∧ w 56 0 = 0 := by
  have hA := h.1
  have hn := hA.hn
  have agT : ag n (pv (tc_take u n) 9) (pv u 3) := fun j i hj hi => tk_p hj hi
  have hI : sp_I n (tc_take u n) := ⟨by unfold tc_take; rw [if_pos rfl]; exact pk_us, fun i hi => ag_line agT hi (hA.li i hi), sp_ok_F (fun q h1 h2 => tk_o (by omega) (by omega)) hA.ok⟩
  have hQl : ∀ i, i < n → tp_line (nr n (pv u 3)) i := fun i hi => ag_line nr_ag.sy hi (hA.li i hi)
  obtain ⟨K, hK1, hK2, hK3⟩ := tp_stop hn hQl
  obtain ⟨e1, e2, e3, e4⟩ := sr_e hn hK2 hK3 nr_nrm 1000000 0 0 (tc_take u n) (Nat.zero_le _) (by omega) hI (agT.tr nr_ag)
  have eK : (st_r n u).1 = K := by
    have : (st_r n u).1 + 0 = 0 + K := e1
    omega
  have hZ : sp_I n (st_r n u).2 := e2
  have agZ : ag n (pv (st_r n u).2 9) (tp_it n (nr n (pv u 3)) K) := e3
  have oZ : ∀ q, (q < 9 ∨ (13 ≤ q ∧ q < 16) ∨ 24 ≤ q) → q ≠ 7 → (st_r n u).2 q = u q := fun q hq h7 => (e4 q hq).trans (tk_o h7 (by omega))
  have ag3 : ag n (pv (st_r n u).2 3) (pv u 3) := fun j i hj hi => by
    show (st_r n u).2 (3 + j) i = u (3 + j) i
    rw [oZ (3 + j) (by omega) (by omega)]
  have hQ : ∀ i, i < n → tp_line (pv (st_r n u).2 3) i ∧ ¬ pv (st_r n u).2 3 0 i = -1 := fun i hi => ⟨ag_line ag3 hi (hA.li i hi), by rw [ag3 0 i (by decide) hi]; exact hA.ne i hi⟩
  have oV : ∀ q, q ≠ 0 → (q < 26 ∨ q = 35 ∨ 56 ≤ q) → st_sh n u q = (st_r n u).2 q := fun q h0 hq => by
    unfold st_sh; rw [tc_up_ne h0, sn_o (by omega), sk_A n _ (by omega)]
  have oV2 : ∀ q, q ≠ 0 → q < 47 → st_sh n u q = sk_find n (st_r n u).2 q := fun q h0 hq => by
    unfold st_sh; rw [tc_up_ne h0, sn_o (by omega)]
  have pmV : ∀ o, pm (st_sh n u) o = pm u o := fun o => pm_F (fun j hj => by rw [oV (57 + j) (by omega) (by omega), oZ (57 + j) (by omega) (by omega)])
  have agM : ag n (pm u 0) (pv u 3) := fun j i hj hi => by
    rw [pm_of hj, Nat.zero_add]; exact hA.eq j i hj hi
  have hs1 : st_sh n u 56 1 = nI n := by rw [oV 56 (by decide) (by omega), oZ 56 (by omega) (by decide)]; exact hA.s2
  refine ⟨hI, hZ, hQ, hs1, fun i hi => by rw [pmV]; exact ag_line agM hi (hA.li i hi), fun i hi => by rw [pmV, agM 0 i (by decide) hi]; exact hA.ne i hi, fun k w hR hE => ?_⟩
  rw [pmV, ag_nr agM] at hR
  obtain ⟨r1, r2, r3, r4, r5, r6⟩ := hR
  have ek : k = K := by
    rcases Nat.lt_trichotomy k K with z | z | z
    · exact absurd (hK3 k z) r2
    · exact z
    · exact absurd (r3 K z) hK2
  subst ek
  obtain ⟨x1, x2, x3, x4, x5, x6, x7, x8, x9, x10, x11⟩ := hE
  have oW : ∀ q, q ≠ 0 → q < 26 → w q = (st_r n u).2 q := fun q h0 hq => (x1 q (by omega)).trans (oV q h0 (by omega))
  have w05 : w 0 5 = 1 := by rw [x1 0 (by decide)]; unfold st_sh; rw [tc_up_self]
  have agW3 : ag n (pm w 0) (pv (st_r n u).2 3) := fun j i hj hi => by
    rw [pm_of hj, Nat.zero_add, x3 j i hj (by omega), ag3 j i hj hi, oV (57 + j) (by omega) (by omega), oZ (57 + j) (by omega) (by omega)]
    exact hA.eq j i hj hi
  have agW9 : ag n (pm w 16) (pv (st_r n u).2 9) := r4.tr agZ.sy
  have hct := sk_ct (u := (st_r n u).2) hn (fun i hi => (hQ i hi).1) (fun i hi => (hQ i hi).2) hZ.2.1 (fun i hi => by rw [ag_tg agZ hi, tp_it_tg hi, ← ag_tg nr_ag hi, ag_tg ag3 hi])
  have ok : sp_ok w := sp_ok_F (fun q h1 h2 => oW q (by omega) (by omega)) hZ.2.2
  refine ⟨⟨⟨hn, ?_, ?_, fun j i hj hi => ?_, fun i hi => ?_, fun i hi => ?_, ok, ?_, Or.inr w05⟩, fun _ => ⟨?_, fun j i hj hi => ?_, fun i hi => ?_, fun i hi => ?_, r5, fun q hq x hx => ?_, r6, ⟨0, 0, 0, ?_⟩⟩⟩, by rw [eK], x4⟩
  · rw [oW 1 (by decide) (by decide), oZ 1 (by decide) (by decide)]; exact hA.s1
  · rw [x5]; exact hs1
  · have := agW3 j i hj hi
    rw [pm_of hj, Nat.zero_add] at this
    rw [this, oW (3 + j) (by omega) (by omega)]
    rfl
  · refine ag_line (P := pv w 3) (Q := pv u 3) (fun j i hj hi => ?_) hi (hA.li i hi)
    show w (3 + j) i = _
    rw [oW (3 + j) (by omega) (by omega)]; exact ag3 j i hj hi
  · show ¬ w (3 + 0) i = -1
    rw [oW 3 (by decide) (by decide)]; exact (hQ i hi).2
  · rw [x6, w05]
  · rw [oW 7 (by decide) (by decide)]; exact hZ.1
  · have := agW9 j i hj hi
    rw [pm_of hj] at this
    rw [this, oW (9 + j) (by omega) (by omega)]
    rfl
  · refine ag_line (P := pv w 9) (Q := pv (st_r n u).2 9) (fun j i hj hi => ?_) hi (hZ.2.1 i hi)
    show w (9 + j) i = _
    rw [oW (9 + j) (by omega) (by omega)]; rfl
  · have e0 : pv w 9 0 i = tp_it n (nr n (pv u 3)) k 0 i := by
      show w (9 + 0) i = _
      rw [oW 9 (by decide) (by decide)]; exact agZ 0 i (by decide) hi
    have e3 : pv w 3 0 i = nr n (pv u 3) 0 i := by
      show w (3 + 0) i = _
      rw [oW 3 (by decide) (by decide)]; exact (ag3 0 i (by decide) hi).trans (nr_ag 0 i (by decide) hi)
    rw [e0, e3]
    exact tp_it_kd hQl hi k
  · rw [x1 (26 + x) (by omega), x1 (36 + x) (by omega), oV2 (26 + x) (by omega) (by omega), oV2 (36 + x) (by omega) (by omega)]
    obtain ⟨c1, c2⟩ := hct q hq x hx
    exact ⟨fun r hr => (c1 r hr).trans (ag_k agW3 agW9).symm, fun c => (ag_v agW3).trans (c2 c)⟩
  · refine sn_zero (v := sk_find n (st_r n u).2) (fun q h1 h2 => ?_) x7 x8 x9 x10 x11
    rw [x1 q h2]; unfold st_sh; rw [tc_up_ne (by omega)]
