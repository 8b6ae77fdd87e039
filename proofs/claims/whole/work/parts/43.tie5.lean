/-! carriers and constants, as the class finds them -/
theorem bq_64 : ∀ i, i < 32 → bq 64 i = decide (i = 6) := by decide +kernel
theorem bq_m65 : ∀ i, i < 32 → bq (-65) i = decide (¬ i = 6) := by decide +kernel
theorem bq_127 : ∀ i, i < 32 → bq 127 i = decide (i < 7) := by decide +kernel
theorem bs_bits {P1 : tp_P} {i r : Nat} (hl : tp_line P1 i) (m : Nat → Int32) (y : Nat) (hr : r < 6) : bq (sk_bs P1 i (m y)) r = true ↔ tp_g P1 i (fun y s => bq (m y) s = true) y r := by
  unfold sk_bs tp_g
  by_cases k : P1 0 i = 0 ∨ P1 0 i = 1 ∨ P1 0 i = 2
  · obtain ⟨a, ha, ea⟩ := hl.2.1 (by rcases k with k | k | k <;> rw [k] <;> decide)
    have ew : tp_wI P1 i = nI a := by unfold tp_wI; rw [if_pos k, ea]
    have ew2 : tp_w P1 i = some a := by unfold tp_w; rw [if_pos k, ea, show tp_n (nI a) = a from nI_clamp (by omega)]
    have an : bq (m y &&& (tp_sh (nI a) ^^^ (-1))) r = true ↔ ¬ r = a ∧ bq (m y) r = true := by
      rw [bq_and, bq_not _ (by omega), bq_sh a (by omega) r (by omega), Bool.and_eq_true, Bool.not_eq_true', decide_eq_false_iff_not, and_comm]
    rw [ew, ew2, if_neg (nI_m1' (by omega))]
    by_cases k1 : P1 0 i = 1
    · obtain ⟨b, hb, eb⟩ := hl.2.2.1 (Or.inl k1)
      have sh0 := bq_shr0 (a := b) (by omega) (m y)
      rw [eb, show tp_n (nI b) = b from nI_clamp (by omega)]
      by_cases z : bq (m y) b = true
      · rw [if_pos ⟨k1, fun q => by rw [sh0, z] at q; cases q⟩, bq_or, bq_sh a (by omega) r (by omega), Bool.or_eq_true, decide_eq_true_eq]
        by_cases e : r = a
        · rw [if_pos (by rw [e])]; exact ⟨fun _ => ⟨k1, z⟩, fun _ => Or.inr e⟩
        · rw [if_neg (fun q => e (Option.some.inj q).symm)]; exact ⟨fun h => h.elim id (fun h => absurd h e), Or.inl⟩
      · rw [if_neg (fun q => q.2 (sh0.mpr (Bool.eq_false_iff.mpr z))), an]
        by_cases e : r = a
        · rw [if_pos (by rw [e])]; exact ⟨fun h => absurd e h.1, fun h => absurd h.2 z⟩
        · rw [if_neg (fun q => e (Option.some.inj q).symm)]; exact ⟨fun h => h.2, fun h => ⟨e, h⟩⟩
    · rw [if_neg (fun q => k1 q.1), an]
      by_cases e : r = a
      · rw [if_pos (by rw [e])]; exact ⟨fun h => absurd e h.1, fun h => absurd h.1 k1⟩
      · rw [if_neg (fun q => e (Option.some.inj q).symm)]; exact ⟨fun h => h.2, fun h => ⟨e, h⟩⟩
  · have ew : tp_wI P1 i = -1 := if_neg k
    have ew2 : tp_w P1 i = none := if_neg k
    rw [ew, ew2, if_pos rfl, if_neg (by intro q; cases q)]
theorem bs_6 {P1 : tp_P} {i : Nat} (hl : tp_line P1 i) (x : Int32) : bq (sk_bs P1 i x) 6 = bq x 6 := by
  unfold sk_bs
  by_cases k : P1 0 i = 0 ∨ P1 0 i = 1 ∨ P1 0 i = 2
  · obtain ⟨a, ha, ea⟩ := hl.2.1 (by rcases k with k | k | k <;> rw [k] <;> decide)
    have ew : tp_wI P1 i = nI a := by unfold tp_wI; rw [if_pos k, ea]
    rw [ew, if_neg (nI_m1' (by omega))]
    have e : decide (6 = a) = false := decide_eq_false (by omega)
    split
    · rw [bq_or, bq_sh a (by omega) 6 (by omega), e, Bool.or_false]
    · rw [bq_and, bq_not _ (by omega), bq_sh a (by omega) 6 (by omega), e, Bool.not_false, Bool.and_true]
  · have ew : tp_wI P1 i = -1 := if_neg k
    rw [ew, if_pos rfl]
theorem it_bits {P P1 : tp_P} {i b : Nat} (hl : tp_line P i) (hne : ¬ P 0 i = -1) (hb : b < 32) : bq (sk_it P P1 i) b = true ↔ P1 0 i ≠ -1 ∧ b = tp_n (P 1 i) := by
  obtain ⟨a, ha, ea⟩ := hl.2.1 hne
  unfold sk_it
  rw [ea, show tp_n (nI a) = a from nI_clamp (by omega)]
  by_cases k : P1 0 i = -1
  · rw [if_pos k, bq_0]; exact ⟨fun h => (by cases h), fun h => absurd k h.1⟩
  · rw [if_neg k, bq_sh a (by omega) b hb, decide_eq_true_eq]; exact ⟨fun h => ⟨k, h⟩, fun h => h.2⟩
theorem m_bits {P P1 : tp_P} {i x r : Nat} (hl : tp_line P i) (hl1 : tp_line P1 i) (hne : ¬ P 0 i = -1) (m : Nat → Int32) (hr : r < 6) : bq (sk_m P P1 i (fun y => sk_bs P1 i (m y)) x) r = true ↔ tp_ks P P1 i (fun y s => bq (m y) s = true) x r := by
  have h1 := tp_one hl hne
  unfold sk_m tp_ks
  by_cases k0 : P 0 i = 0 ∧ x = tp_n (P 1 i)
  · rw [if_pos k0, if_pos ⟨Or.inl k0.1, k0.2⟩, bq_or, bq_64 r (by omega), decide_eq_false (by omega), Bool.or_false, it_bits hl hne (by omega), ← k0.2]
  · rw [if_neg k0]
    by_cases k1 : P 0 i = 1 ∧ x = tp_n (P 1 i)
    · rw [if_pos k1, if_neg (fun q => by rw [k1.1] at q; exact absurd q.1 (by decide)), if_pos k1, bq_or, Bool.or_eq_true, it_bits hl hne (by omega), bs_bits hl1 m _ hr, ← k1.2, or_comm]
    · rw [if_neg k1]
      by_cases k2 : P 0 i = 2 ∧ x = tp_n (P 1 i)
      · rw [if_pos k2, if_pos ⟨Or.inr k2.1, k2.2⟩, it_bits hl hne (by omega), ← k2.2]
      · rw [if_neg k2, if_neg (show ¬ ((P 0 i = 0 ∨ P 0 i = 2) ∧ x = tp_n (P 1 i)) from fun q => q.1.elim (fun z => k0 ⟨z, q.2⟩) (fun z => k2 ⟨z, q.2⟩)), if_neg k1]
        by_cases k5 : P 0 i = 5 ∧ x = 6 + tp_n (P 1 i)
        · rw [if_pos k5, if_pos k5]; exact bs_bits hl1 m _ hr
        · rw [if_neg k5, if_neg k5]; exact bs_bits hl1 m _ hr
theorem c_bits {P P1 : tp_P} {i x : Nat} {c : Int32} (hl : tp_line P i) (hl1 : tp_line P1 i) (hne : ¬ P 0 i = -1) (m g : Nat → Int32) : (bq (sk_m P P1 i (fun y => sk_bs P1 i (m y)) x) 6 = true ∧ sk_c P i g x = c) ↔ tp_vs P i (fun y c => bq (m y) 6 = true ∧ g y = c) x c := by
  have h1 := tp_one hl hne
  have it : bq (sk_it P P1 i) 6 = false := Bool.eq_false_iff.mpr fun q => by
    have := ((it_bits hl hne (by omega)).mp q).2
    omega
  unfold sk_m sk_c tp_vs
  by_cases k0 : P 0 i = 0 ∧ x = tp_n (P 1 i)
  · rw [if_pos k0, if_pos k0, if_pos k0, bq_or, bq_64 6 (by omega)]
    exact ⟨fun h => h.2.symm, fun h => ⟨by rw [decide_eq_true rfl, Bool.or_true], h.symm⟩⟩
  · rw [if_neg k0, if_neg k0, if_neg k0]
    by_cases k1 : P 0 i = 1 ∧ x = tp_n (P 1 i)
    · rw [if_pos k1, if_pos k1, if_neg (fun q => by rw [k1.1] at q; exact absurd q.1 (by decide)), if_pos k1, bq_or, it, Bool.or_false, bs_6 hl1]
    · rw [if_neg k1, if_neg k1]
      by_cases k2 : P 0 i = 2 ∧ x = tp_n (P 1 i)
      · rw [if_pos k2, if_pos k2, it]
        exact ⟨fun h => absurd h.1 (by decide), fun h => h.elim⟩
      · rw [if_neg k2, if_neg k2, if_neg k1]
        by_cases k5 : P 0 i = 5 ∧ x = 6 + tp_n (P 1 i)
        · rw [if_pos k5, if_pos k5, if_pos k5, bs_6 hl1]
        · rw [if_neg k5, if_neg k5, if_neg k5, bs_6 hl1]
theorem tp_vs_mono {P : tp_P} {i x : Nat} {c : Int32} {S S' : Nat → Int32 → Prop} (hl : tp_line P i) (hx : x < 9) (h : ∀ y, y < 9 → S y c → S' y c) (hv : tp_vs P i S x c) : tp_vs P i S' x c := by
  unfold tp_vs at hv ⊢
  by_cases k0 : P 0 i = 0 ∧ x = tp_n (P 1 i)
  · rw [if_pos k0] at hv ⊢; exact hv
  · rw [if_neg k0] at hv ⊢
    by_cases k2 : P 0 i = 2 ∧ x = tp_n (P 1 i)
    · rw [if_pos k2] at hv; exact hv.elim
    · rw [if_neg k2] at hv ⊢
      by_cases k1 : P 0 i = 1 ∧ x = tp_n (P 1 i)
      · rw [if_pos k1] at hv ⊢
        exact h _ (by have := tp_two hl (Or.inl k1.1); omega) hv
      · rw [if_neg k1] at hv ⊢
        by_cases k5 : P 0 i = 5 ∧ x = 6 + tp_n (P 1 i)
        · rw [if_pos k5] at hv ⊢
          exact h _ (by have := tp_two hl (Or.inr (Or.inr k5.1)); omega) hv
        · rw [if_neg k5] at hv ⊢
          exact h x hx hv
/-- how many marks are held -/
def km_z (x : Int32) : Nat → Nat
  | 0 => 0
  | r + 1 => km_z x r + (if bq x r = true then 1 else 0)
def km_y (v : tc_S) (q : Nat) : Nat → Nat
  | 0 => 0
  | x + 1 => km_y v q x + km_z (v (26 + x) q) 32
def km_Z (v : tc_S) : Nat → Nat
  | 0 => 0
  | q + 1 => km_Z v q + km_y v q 9
theorem km_z_bd (x : Int32) : ∀ r, km_z x r ≤ r
  | 0 => Nat.le_refl 0
  | r + 1 => by
    have := km_z_bd x r
    unfold km_z
    split <;> omega
theorem km_y_bd (v : tc_S) (q : Nat) : ∀ x, km_y v q x ≤ 32 * x
  | 0 => Nat.le_refl 0
  | x + 1 => by
    have := km_y_bd v q x
    have := km_z_bd (v (26 + x) q) 32
    unfold km_y
    omega
theorem km_Z_bd (v : tc_S) : ∀ q, km_Z v q ≤ 288 * q
  | 0 => Nat.le_refl 0
  | q + 1 => by
    have := km_Z_bd v q
    have := km_y_bd v q 9
    unfold km_Z
    omega
theorem km_z_le {x y : Int32} (h : ∀ r, r < 32 → bq y r = true → bq x r = true) : ∀ r, r ≤ 32 → km_z y r ≤ km_z x r
  | 0, _ => Nat.le_refl 0
  | r + 1, hr => by
    have := km_z_le h r (by omega)
    unfold km_z
    by_cases e : bq y r = true
    · rw [if_pos e, if_pos (h r (by omega) e)]; omega
    · rw [if_neg e]
      split <;> omega
theorem km_z_lt {x y : Int32} (h : ∀ r, r < 32 → bq y r = true → bq x r = true) {a : Nat} (hx : bq x a = true) (hy : ¬ bq y a = true) : ∀ r, r ≤ 32 → a < r → km_z y r < km_z x r
  | 0, _, z => by omega
  | r + 1, hr, z => by
    have t := km_z_le h r (by omega)
    unfold km_z
    by_cases e : a = r
    · subst e
      rw [if_pos hx, if_neg hy]; omega
    · have := km_z_lt h hx hy r (by omega) (by omega)
      by_cases e : bq y r = true
      · rw [if_pos e, if_pos (h r (by omega) e)]; omega
      · rw [if_neg e]
        split <;> omega
theorem km_z_ne {x y : Int32} (h : ∀ r, r < 32 → bq y r = true → bq x r = true) (hne : ¬ y = x) : km_z y 32 < km_z x 32 := by
  have : ∃ a, a < 32 ∧ bq x a = true ∧ ¬ bq y a = true := Classical.byContradiction fun no => hne (bq_ext fun a ha => by
    by_cases z : bq y a = true
    · rw [z, h a ha z]
    · rw [Bool.eq_false_iff.mpr z]
      exact (Bool.eq_false_iff.mpr fun y => no ⟨a, ha, y, z⟩).symm)
  obtain ⟨a, ha, h1, h2⟩ := this
  exact km_z_lt h h1 h2 32 (by omega) ha
theorem km_y_le {v w : tc_S} {q : Nat} (h : ∀ x, x < 9 → ∀ r, r < 32 → bq (w (26 + x) q) r = true → bq (v (26 + x) q) r = true) : ∀ x, x ≤ 9 → km_y w q x ≤ km_y v q x
  | 0, _ => Nat.le_refl 0
  | x + 1, hx => by
    have := km_y_le h x (by omega)
    have := km_z_le (h x (by omega)) 32 (by omega)
    unfold km_y
    omega
theorem km_y_lt {v w : tc_S} {q : Nat} (h : ∀ x, x < 9 → ∀ r, r < 32 → bq (w (26 + x) q) r = true → bq (v (26 + x) q) r = true) {x0 : Nat} (hne : ¬ w (26 + x0) q = v (26 + x0) q) : ∀ x, x ≤ 9 → x0 < x → km_y w q x < km_y v q x
  | 0, _, z => by omega
  | x + 1, hx, z => by
    have t := km_y_le h x (by omega)
    have t2 := km_z_le (h x (by omega)) 32 (by omega)
    unfold km_y
    by_cases e : x0 = x
    · subst e
      have := km_z_ne (h x0 (by omega)) hne
      omega
    · have := km_y_lt h hne x (by omega) (by omega)
      omega
theorem km_Z_le {v w : tc_S} (h : ∀ q x, x < 9 → ∀ r, r < 32 → bq (w (26 + x) q) r = true → bq (v (26 + x) q) r = true) : ∀ q, km_Z w q ≤ km_Z v q
  | 0 => Nat.le_refl 0
  | q + 1 => by
    have := km_Z_le h q
    have := km_y_le (h q) 9 (by omega)
    unfold km_Z
    omega
theorem km_Z_lt {v w : tc_S} (h : ∀ q x, x < 9 → ∀ r, r < 32 → bq (w (26 + x) q) r = true → bq (v (26 + x) q) r = true) {q0 x0 : Nat} (hx : x0 < 9) (hne : ¬ w (26 + x0) q0 = v (26 + x0) q0) : ∀ q, q0 < q → km_Z w q < km_Z v q
  | 0, z => by omega
  | q + 1, z => by
    have t := km_Z_le h q
    have t2 := km_y_le (h q) 9 (by omega)
    unfold km_Z
    by_cases e : q0 = q
    · subst e
      have := km_y_lt (h q0) hne 9 (by omega) hx
      omega
    · have := km_Z_lt h hx hne q (by omega)
      omega
theorem km_y_congr {v w : tc_S} {q : Nat} (h : ∀ x, x < 9 → w (26 + x) q = v (26 + x) q) : ∀ x, x ≤ 9 → km_y w q x = km_y v q x
  | 0, _ => rfl
  | x + 1, hx => by unfold km_y; rw [km_y_congr h x (by omega), h x (by omega)]
theorem km_Z_congr {v w : tc_S} (h : ∀ q x, x < 9 → w (26 + x) q = v (26 + x) q) : ∀ q, km_Z w q = km_Z v q
  | 0 => rfl
  | q + 1 => by unfold km_Z; rw [km_Z_congr h q, km_y_congr (h q) 9 (by omega)]
def kt_t (v : tc_S) : (Nat → Nat → Int32) × (Nat → Nat → Int32) := (fun r q => if r < 9 then v (26 + r) q else 0, fun r q => if r < 9 then v (36 + r) q else 0)
theorem kt_t_e {v w : tc_S} (h : kt_t v = kt_t w) {r q : Nat} (hr : r < 9) : v (26 + r) q = w (26 + r) q ∧ v (36 + r) q = w (36 + r) q := by
  have h1 := congrFun (congrFun (congrArg Prod.fst h) r) q
  have h2 := congrFun (congrFun (congrArg Prod.snd h) r) q
  unfold kt_t at h1 h2
  simp only [if_pos hr] at h1 h2
  exact ⟨h1, h2⟩
theorem kt_t_i {v w : tc_S} (h : ∀ r, r < 9 → v (26 + r) = w (26 + r) ∧ v (36 + r) = w (36 + r)) : kt_t v = kt_t w := by
  unfold kt_t
  refine Prod.ext ?_ ?_
  · funext r q
    by_cases hr : r < 9
    · simp only [if_pos hr]; rw [(h r hr).1]
    · simp only [if_neg hr]
  · funext r q
    by_cases hr : r < 9
    · simp only [if_pos hr]; rw [(h r hr).2]
    · simp only [if_neg hr]
theorem kt_t1 {v : tc_S} {r q : Nat} (hr : r < 9) : (kt_t v).1 r q = v (26 + r) q := by unfold kt_t; simp only [if_pos hr]
theorem kt_t2 {v : tc_S} {r q : Nat} (hr : r < 9) : (kt_t v).2 r q = v (36 + r) q := by unfold kt_t; simp only [if_pos hr]
section KT
variable (n : Nat) (P P1 : tp_P)
def kt_K (S : Nat → Nat → Nat → Prop) (q : Nat) (f : Nat → Int32) : Prop := ∀ x, x < 9 → ∀ r, r < 6 → S q x r → bq (f x) r = true
def kt_V (S : Nat → Nat → Int32 → Prop) (q : Nat) (f g : Nat → Int32) : Prop := ∀ x, x < 9 → ∀ c, S q x c → bq (f x) 6 = true ∧ g x = c
def kt_I (m : Nat) (u v : tc_S) : Prop := sf_F u v ∧ (∀ S, tp_kS n P P1 S → ∀ q, q ≤ m → kt_K S q (fun x => v (26 + x) q)) ∧ (∀ S, tp_vS n P S → ∀ q, q ≤ m → kt_V S q (fun x => v (26 + x) q) (fun x => v (36 + x) q)) ∧ (∀ x, x < 9 → 6 ≤ x → v (26 + x) 0 = 0) ∧ ∀ x, x < 9 → v (36 + x) 0 = 0
def kt_H (i : Nat) (v : tc_S) : Prop := (∀ S, tp_kS n P P1 S → ∀ q, tp_nx n P i q → kt_K S q (v 45)) ∧ ∀ S, tp_vS n P S → ∀ q, tp_nx n P i q → kt_V S q (v 45) (v 46)
def kt_B (i : Nat) (f : Nat → Int32) (x : Nat) : Int32 := sk_m P P1 i (fun y => sk_bs P1 i (f y)) x
def kt_E (i : Nat) (t : (Nat → Nat → Int32) × (Nat → Nat → Int32)) (w : tc_S) : Prop := ∀ x, x < 9 → w 45 x = kt_B P P1 i (fun r => t.1 r i) x ∧ w 46 x = sk_c P i (fun r => t.2 r i) x
def kt_N (q : Nat) (w : tc_S) : Prop := ∀ x, x < 9 → sk_n w q x = w (26 + x) q
end KT
theorem sk_m_congr {P P1 : tp_P} {i x : Nat} {f g : Nat → Int32} (hl : tp_line P i) (hne : ¬ P 0 i = -1) (hx : x < 9) (h : ∀ y, y < 9 → f y = g y) : sk_m P P1 i f x = sk_m P P1 i g x := by
  unfold sk_m
  by_cases k : P 0 i = 1 ∨ P 0 i = 2 ∨ P 0 i = 5
  · rw [h _ (show tp_n (P 2 i) < 9 by have := tp_two hl k; omega), h x hx]
  · have k1 : ¬ (P 0 i = 1 ∧ x = tp_n (P 1 i)) := fun q => k (Or.inl q.1)
    have k5 : ¬ (P 0 i = 5 ∧ x = 6 + tp_n (P 1 i)) := fun q => k (Or.inr (Or.inr q.1))
    rw [if_neg k1, if_neg k1, if_neg k5, if_neg k5, h x hx]
theorem sk_c_congr {P : tp_P} {i x : Nat} {f g : Nat → Int32} (hl : tp_line P i) (hx : x < 9) (h : ∀ y, y < 9 → f y = g y) : sk_c P i f x = sk_c P i g x := by
  unfold sk_c
  by_cases k : P 0 i = 1 ∨ P 0 i = 2 ∨ P 0 i = 5
  · rw [h _ (show tp_n (P 2 i) < 9 by have := tp_two hl k; omega), h x hx]
  · have k1 : ¬ (P 0 i = 1 ∧ x = tp_n (P 1 i)) := fun q => k (Or.inl q.1)
    have k5 : ¬ (P 0 i = 5 ∧ x = 6 + tp_n (P 1 i)) := fun q => k (Or.inr (Or.inr q.1))
    rw [if_neg k1, if_neg k1, if_neg k5, if_neg k5, h x hx]
theorem sk_m_P {P P1 Q Q1 : tp_P} {i x : Nat} {f : Nat → Int32} (h : ∀ j, j < 4 → P j i = Q j i) (h1 : ∀ j, j < 4 → P1 j i = Q1 j i) : sk_m P P1 i f x = sk_m Q Q1 i f x := by
  unfold sk_m sk_it
  rw [h 0 (by omega), h 1 (by omega), h 2 (by omega), h1 0 (by omega)]
theorem sk_c_P {P Q : tp_P} {i x : Nat} {f : Nat → Int32} (h : ∀ j, j < 4 → P j i = Q j i) : sk_c P i f x = sk_c Q i f x := by
  unfold sk_c
  rw [h 0 (by omega), h 1 (by omega), h 2 (by omega)]
theorem kt_fol {n m i : Nat} {u v : tc_S} (hP : ∀ i, i < n → tp_line (pv u 3) i) (hne : ∀ i, i < n → ¬ pv u 3 0 i = -1) (hP1 : ∀ i, i < n → tp_line (pv u 9) i) (hi : i < n) (him : i ≤ m) (h : kt_I n (pv u 3) (pv u 9) m u v) : kt_I n (pv u 3) (pv u 9) m u (sk_fol i v) ∧ kt_H n (pv u 3) (pv u 9) i (sk_fol i v) ∧ kt_t (sk_fol i v) = kt_t v ∧ kt_E (pv u 3) (pv u 9) i (kt_t v) (sk_fol i v) := by
  obtain ⟨hF, hA, hB, h0, h00⟩ := h
  have o : ∀ q, q < 45 → sk_fol i v q = v q := fun q hq => sk_rs_o hq
  have e45 : ∀ x, x < 9 → sk_fol i v 45 x = kt_B (pv u 3) (pv u 9) i (fun r => v (26 + r) i) x := fun x hx => by
    unfold sk_fol
    rw [sk_rs_45 hx, sk_m_P (fun j hj => sf_Fpv hF (by decide) hj) (fun j hj => sf_Fpv hF (by decide) hj)]
    refine sk_m_congr (hP i hi) (hne i hi) hx (fun y _ => ?_)
    exact sk_bs_congr (sf_Fpv hF (by decide) (by decide)) (sf_Fpv hF (by decide) (by decide)) (sf_Fpv hF (by decide) (by decide))
  have e46 : ∀ x, x < 9 → sk_fol i v 46 x = sk_c (pv u 3) i (fun r => v (36 + r) i) x := fun x hx => by
    unfold sk_fol
    rw [sk_rs_46 hx, sk_c_P (fun j hj => sf_Fpv hF (by decide) hj)]
    rfl
  refine ⟨⟨hF.tr (sk_F1 i v), fun S hS q hq x hx r hr hs => ?_, fun S hS q hq x hx c hs => ?_, fun x hx h6 => ?_, fun x hx => ?_⟩, ⟨fun S hS q hq x hx r hr hs => ?_, fun S hS q hq x hx c hs => ?_⟩, kt_t_i (fun r hr => ⟨o _ (by omega), o _ (by omega)⟩), fun x hx => ⟨?_, ?_⟩⟩
  · show bq (sk_fol i v (26 + x) q) r = true
    rw [o _ (by omega)]; exact hA S hS q hq x hx r hr hs
  · show bq (sk_fol i v (26 + x) q) 6 = true ∧ sk_fol i v (36 + x) q = c
    rw [o _ (by omega), o _ (by omega)]; exact hB S hS q hq x hx c hs
  · rw [o _ (by omega)]; exact h0 x hx h6
  · rw [o _ (by omega)]; exact h00 x hx
  · rw [e45 x hx]
    refine (m_bits (hP i hi) (hP1 i hi) (hne i hi) _ hr).mpr ?_
    exact tp_ks_mono (hP i hi) (hP1 i hi) hx hr (fun y hy s hs z => hA S hS i him y hy s hs z) (hS.2 i q hi hq x r hx hr hs)
  · rw [e45 x hx, e46 x hx]
    refine (c_bits (hP i hi) (hP1 i hi) (hne i hi) _ _).mpr ?_
    exact tp_vs_mono (hP i hi) hx (fun y hy z => hB S hS i him y hy c z) (hS.2 i q hi hq x c hx hs)
  · rw [e45 x hx]
    unfold kt_B
    refine sk_m_congr (hP i hi) (hne i hi) hx (fun y hy => ?_)
    show sk_bs _ i (v (26 + y) i) = sk_bs _ i ((kt_t v).1 y i)
    rw [kt_t1 hy]
  · rw [e46 x hx]
    refine sk_c_congr (hP i hi) hx (fun y hy => ?_)
    show v (36 + y) i = (kt_t v).2 y i
    rw [kt_t2 hy]
theorem kt_col {v : tc_S} {b q r q' : Nat} {f : Nat → Int32} (hr : r < 9) : tc_col v b q f 9 (b + r) q' = if q' = q then f r else v (b + r) q' := by
  rw [tc_col_in hr]; unfold upd; rfl
theorem sk_n_bits {v : tc_S} {q x b : Nat} (hb : b < 32) : bq (sk_n v q x) b = true ↔ bq (v (26 + x) q) b = true ∧ bq (v 45 x) b = true ∧ (b = 6 → v (36 + x) q = v 46 x) := by
  unfold sk_n
  by_cases e : v (36 + x) q = v 46 x
  · rw [if_pos e, bq_and, Bool.and_eq_true]
    exact ⟨fun h => ⟨h.1, h.2, fun _ => e⟩, fun h => ⟨h.1, h.2.1⟩⟩
  · rw [if_neg e, bq_and, bq_and, bq_m65 b hb, Bool.and_eq_true, Bool.and_eq_true, decide_eq_true_eq]
    exact ⟨fun h => ⟨h.1.1, h.1.2, fun z => absurd z h.2⟩, fun h => ⟨⟨h.1, h.2.1⟩, fun z => e (h.2.2 z)⟩⟩
theorem kt_nar {n i q : Nat} {P P1 : tp_P} {u v : tc_S} (hn : n ≤ 16) (hi : i < n) (hq : tp_nx n P i q) (h : kt_I n P P1 n u v) (hH : kt_H n P P1 i v) : kt_I n P P1 n u (sk_nar q v) ∧ kt_H n P P1 i (sk_nar q v) ∧ km_Z (sk_nar q v) 17 ≤ km_Z v 17 ∧ (sk_nch q v = 0 → sk_nar q v = v ∧ kt_N q v) ∧ (¬ sk_nch q v = 0 → km_Z (sk_nar q v) 17 < km_Z v 17) := by
  obtain ⟨hF, hA, hB, h0, h00⟩ := h
  have hqn : q ≤ n := by
    rcases hq with e | e
    · omega
    · rw [e]; exact tp_tg_le hi
  have val : ∀ x q', x < 9 → sk_nar q v (26 + x) q' = if q' = q then sk_n v q x else v (26 + x) q' := fun x q' hx => by
    unfold sk_nar; rw [kt_col hx]
  have o : ∀ z, 35 ≤ z → sk_nar q v z = v z := fun z hz => tc_col_out (by omega)
  have mono : ∀ q' x, x < 9 → ∀ r, r < 32 → bq (sk_nar q v (26 + x) q') r = true → bq (v (26 + x) q') r = true := fun q' x hx r hr z => by
    rw [val x q' hx] at z
    by_cases e : q' = q
    · rw [if_pos e] at z; rw [e]; exact ((sk_n_bits hr).mp z).1
    · rw [if_neg e] at z; exact z
  refine ⟨⟨hF.tr (sk_F3 q v), fun S hS q' hq' x hx r hr hs => ?_, fun S hS q' hq' x hx c hs => ?_, fun x hx h6 => ?_, fun x hx => ?_⟩, ⟨fun S hS q' hq' => by rw [o 45 (by omega)]; exact hH.1 S hS q' hq', fun S hS q' hq' => by rw [o 45 (by omega), o 46 (by omega)]; exact hH.2 S hS q' hq'⟩, km_Z_le mono 17, fun hz => ?_, fun hz => ?_⟩
  · show bq (sk_nar q v (26 + x) q') r = true
    rw [val x q' hx]
    by_cases e : q' = q
    · rw [if_pos e]
      rw [e] at hs
      exact (sk_n_bits (by omega)).mpr ⟨hA S hS q hqn x hx r hr hs, hH.1 S hS q hq x hx r hr hs, fun z => absurd z (by omega)⟩
    · rw [if_neg e]; exact hA S hS q' hq' x hx r hr hs
  · show bq (sk_nar q v (26 + x) q') 6 = true ∧ sk_nar q v (36 + x) q' = c
    rw [val x q' hx, o (36 + x) (by omega)]
    by_cases e : q' = q
    · rw [if_pos e]
      rw [e] at hs ⊢
      have a := hB S hS q hqn x hx c hs
      have b := hH.2 S hS q hq x hx c hs
      exact ⟨(sk_n_bits (by omega)).mpr ⟨a.1, b.1, fun _ => a.2.trans b.2.symm⟩, a.2⟩
    · rw [if_neg e]; exact hB S hS q' hq' x hx c hs
  · apply bq_ext
    intro r hr
    rw [bq_0]
    refine Bool.eq_false_iff.mpr fun z => ?_
    have := mono 0 x hx r hr z
    rw [h0 x hx h6, bq_0] at this
    cases this
  · rw [o _ (by omega)]; exact h00 x hx
  · have no : ∀ x, x < 9 → ¬ sk_q v q x := fun x hx z => tp_b_q hz ⟨x, hx, z⟩
    have same : ∀ x, x < 9 → sk_n v q x = v (26 + x) q := fun x hx => Classical.byContradiction fun z => no x hx z
    refine ⟨?_, same⟩
    funext k j
    by_cases hk : 26 ≤ k ∧ k < 35
    · have hk' : k = 26 + (k - 26) := by omega
      rw [hk', val (k - 26) j (by omega)]
      by_cases e : j = q
      · rw [if_pos e, e]; exact same _ (by omega)
      · rw [if_neg e]
    · unfold sk_nar; rw [tc_col_out (by omega)]
  · obtain ⟨x, hx, z⟩ := tp_b_p hz
    exact km_Z_lt mono hx (q0 := q) (by rw [val x q hx, if_pos rfl]; exact z) 17 (by omega)
/-- what Carriers.find finds -/
theorem sk_ct {n : Nat} {u : tc_S} (hn : n ≤ 16) (hP : ∀ i, i < n → tp_line (pv u 3) i) (hne : ∀ i, i < n → ¬ pv u 3 0 i = -1) (hP1 : ∀ i, i < n → tp_line (pv u 9) i) (htg : ∀ i, i < n → tp_tg n (pv u 9) i = tp_tg n (pv u 3) i) : ∀ q, q ≤ n → ∀ x, x < 9 → (∀ r, r < 6 → (bq (sk_find n u (26 + x) q) r = true ↔ tp_k n (pv u 3) (pv u 9) q x r)) ∧ ∀ c, (tp_v n (pv u 3) q x c ↔ bq (sk_find n u (26 + x) q) 6 = true ∧ sk_find n u (36 + x) q = c) := by
  have hu : ∀ x q', x < 9 → tc_col (tc_col u 26 0 sk_m0 9) 36 0 (fun _ => 0) 9 (26 + x) q' = if q' = 0 then sk_m0 x else u (26 + x) q' := fun x q' hx => by
    rw [tc_col_out (by omega), kt_col hx]
  have hw : ∀ x q', x < 9 → tc_col (tc_col u 26 0 sk_m0 9) 36 0 (fun _ => 0) 9 (36 + x) q' = if q' = 0 then 0 else tc_col u 26 0 sk_m0 9 (36 + x) q' := fun x q' hx => by
    rw [kt_col hx]
  have h0 : kt_I n (pv u 3) (pv u 9) 0 u (tc_col (tc_col u 26 0 sk_m0 9) 36 0 (fun _ => 0) 9) := by
    refine ⟨sk_find0 u 9, fun S hS q hq x hx r hr hs => ?_, fun S hS q hq x hx c hs => ?_, fun x hx h6 => ?_, fun x hx => ?_⟩
    · show bq (tc_col _ 36 0 _ 9 (26 + x) q) r = true
      rw [show q = 0 by omega] at hs ⊢
      rw [hu x 0 hx, if_pos rfl]
      unfold sk_m0
      rw [if_pos (hS.1 x r hs), bq_127 r (by omega)]
      exact decide_eq_true (by omega)
    · show bq (tc_col _ 36 0 _ 9 (26 + x) q) 6 = true ∧ tc_col _ 36 0 _ 9 (36 + x) q = c
      rw [show q = 0 by omega] at hs ⊢
      rw [hu x 0 hx, hw x 0 hx, if_pos rfl, if_pos rfl]
      obtain ⟨a, b⟩ := hS.1 x c hs
      unfold sk_m0
      rw [if_pos a, bq_127 6 (by omega)]
      exact ⟨rfl, b.symm⟩
    · rw [hu x 0 hx, if_pos rfl]; unfold sk_m0; rw [if_neg (by omega)]
    · rw [hw x 0 hx, if_pos rfl]
  have h1 : ∀ i, i ≤ n → kt_I n (pv u 3) (pv u 9) i u (sf_1 sk_fol sk_put i (tc_col (tc_col u 26 0 sk_m0 9) 36 0 (fun _ => 0) 9)) := by
    intro i
    induction i with
    | zero => intro _; exact h0
    | succ i ih =>
      intro hi
      have hI := ih (by omega)
      show kt_I n (pv u 3) (pv u 9) (i + 1) u (sk_put (i + 1) (sk_fol i (sf_1 sk_fol sk_put i _)))
      generalize sf_1 sk_fol sk_put i (tc_col (tc_col u 26 0 sk_m0 9) 36 0 (fun _ => 0) 9) = v at hI ⊢
      obtain ⟨⟨a1, a2, a3, a4, a5⟩, ⟨b1, b2⟩, -, -⟩ := kt_fol hP hne hP1 (by omega) (Nat.le_refl i) hI
      have v1 : ∀ x q', x < 9 → sk_put (i + 1) (sk_fol i v) (26 + x) q' = if q' = i + 1 then sk_fol i v 45 x else sk_fol i v (26 + x) q' := fun x q' hx => by unfold sk_put; rw [tc_col_out (by omega), kt_col hx]
      have v2 : ∀ x q', x < 9 → sk_put (i + 1) (sk_fol i v) (36 + x) q' = if q' = i + 1 then sk_fol i v 46 x else sk_fol i v (36 + x) q' := fun x q' hx => by unfold sk_put; rw [kt_col hx, tc_col_out (by omega)]
      refine ⟨a1.tr (sk_F2 _ _), fun S hS q hq x hx r hr hs => ?_, fun S hS q hq x hx c hs => ?_, fun x hx h6 => by rw [v1 x 0 hx, if_neg (by omega)]; exact a4 x hx h6, fun x hx => by rw [v2 x 0 hx, if_neg (by omega)]; exact a5 x hx⟩
      · show bq (sk_put (i + 1) (sk_fol i v) (26 + x) q) r = true
        rw [v1 x q hx]
        by_cases e : q = i + 1
        · rw [if_pos e]; rw [e] at hs; exact b1 S hS (i + 1) (Or.inl rfl) x hx r hr hs
        · rw [if_neg e]; exact a2 S hS q (by omega) x hx r hr hs
      · show bq (sk_put (i + 1) (sk_fol i v) (26 + x) q) 6 = true ∧ sk_put (i + 1) (sk_fol i v) (36 + x) q = c
        rw [v1 x q hx, v2 x q hx]
        by_cases e : q = i + 1
        · rw [if_pos e, if_pos e]; rw [e] at hs; exact b2 S hS (i + 1) (Or.inl rfl) x hx c hs
        · rw [if_neg e, if_neg e]; exact a3 S hS q (by omega) x hx c hs
  have tgv : ∀ i v, i < n → sf_F u v → tp_tg n (pv v 9) i = tp_tg n (pv u 3) i := fun i v hi h => (sf_Ftg h (by decide)).trans (htg i hi)
  have hpass := fun v (hv : kt_I n (pv u 3) (pv u 9) n u v) => sf_pass (fol := sk_fol) (nar := sk_nar) (nch := sk_nch) (tg := fun i v => tp_tg n (pv v 9) i) (n := n) (I := kt_I n (pv u 3) (pv u 9) n u) (H := kt_H n (pv u 3) (pv u 9)) (tb := kt_t) (E := kt_E (pv u 3) (pv u 9)) (N := kt_N) (M := fun v => km_Z v 17) (nx := tp_nx n (pv u 3))
    (fun v w e => km_Z_congr (fun q r hr => (kt_t_e e hr).1) 17) (fun i v hi h => kt_fol hP hne hP1 hi (by omega) h) (fun i q v hi hq h hH => kt_nar hn hi hq h hH) (fun i v hi h => Or.inr (tgv i v hi h.1)) (fun i v hi h q hq => hq.imp id (fun e => e.trans (tgv i v hi h.1).symm)) (fun i hi => Or.inl rfl) v hv n (Nat.le_refl n)
  have hend := sf_end (fol := sk_fol) (nar := sk_nar) (nch := sk_nch) (tg := fun i v => tp_tg n (pv v 9) i) (n := n) (I := kt_I n (pv u 3) (pv u 9) n u) (M := fun v => km_Z v 17) (C := fun v => ∀ i, i < n → ∀ q, tp_nx n (pv u 3) i q → ∀ x, x < 9 → ∀ b, b < 32 → bq (v (26 + x) q) b = true → bq (kt_B (pv u 3) (pv u 9) i (fun r => v (26 + r) i) x) b = true ∧ (b = 6 → v (36 + x) q = sk_c (pv u 3) i (fun r => v (36 + r) i) x))
    (fun v hv => by
      obtain ⟨p1, p2, p3, p4⟩ := hpass v hv
      refine ⟨p1, fun hz i hi q hq x hx b hb z => ?_, p4⟩
      obtain ⟨e1, e2⟩ := p3 hz
      obtain ⟨w, w1, w2, w3⟩ := e2 i hi q hq
      generalize (sf_2 sk_fol sk_nar sk_nch (fun i v => tp_tg n (pv v 9) i) n (v, 0)).1 = v' at e1 z ⊢
      obtain ⟨t1, t2⟩ := kt_t_e (q := q) (e1.trans w1.symm) hx
      rw [t1, ← w3 x hx] at z
      obtain ⟨z1, z2, z3⟩ := (sk_n_bits hb).mp z
      obtain ⟨f1, f2⟩ := w2 x hx
      refine ⟨?_, fun h6 => ?_⟩
      · rw [f1] at z2
        rw [← z2]
        congr 1
        unfold kt_B
        refine sk_m_congr (hP i hi) (hne i hi) hx (fun y hy => ?_)
        show sk_bs _ i (v' (26 + y) i) = sk_bs _ i ((kt_t v).1 y i)
        rw [← e1, kt_t1 hy]
      · rw [t2, z3 h6, f2]
        refine sk_c_congr (hP i hi) hx (fun y hy => ?_)
        show (kt_t v).2 y i = v' (36 + y) i
        rw [← e1, kt_t2 hy]) 1000000 _ (h1 n (Nat.le_refl n)) (by have := km_Z_bd (sf_1 sk_fol sk_put n (tc_col (tc_col u 26 0 sk_m0 9) 36 0 (fun _ => 0) 9)) 17; omega)
  obtain ⟨⟨f1, f2, f3, f4, f5⟩, f6⟩ := hend
  intro q hq x hx
  show (∀ r, r < 6 → (bq (sf_3 sk_fol sk_nar sk_nch (fun i v => tp_tg n (pv v 9) i) n 1000000 (sf_1 sk_fol sk_put n (tc_col (tc_col u 26 0 sk_m0 9) 36 0 (fun _ => 0) 9)) (26 + x) q) r = true ↔ _)) ∧ ∀ c, (_ ↔ bq (sf_3 sk_fol sk_nar sk_nch (fun i v => tp_tg n (pv v 9) i) n 1000000 (sf_1 sk_fol sk_put n (tc_col (tc_col u 26 0 sk_m0 9) 36 0 (fun _ => 0) 9)) (26 + x) q) 6 = true ∧ sf_3 sk_fol sk_nar sk_nch (fun i v => tp_tg n (pv v 9) i) n 1000000 (sf_1 sk_fol sk_put n (tc_col (tc_col u 26 0 sk_m0 9) 36 0 (fun _ => 0) 9)) (36 + x) q = c)
  generalize sf_3 sk_fol sk_nar sk_nch (fun i v => tp_tg n (pv v 9) i) n 1000000 (sf_1 sk_fol sk_put n (tc_col (tc_col u 26 0 sk_m0 9) 36 0 (fun _ => 0) 9)) = v at f1 f2 f3 f4 f5 f6 ⊢
  have z0 : ∀ x b, x < 9 → bq (v (26 + x) 0) b = true → x < 6 := fun x b hx z => Classical.byContradiction fun h6 => by
    rw [f4 x hx (by omega), bq_0] at z; cases z
  refine ⟨fun r hr => ⟨fun h => ?_, fun ⟨S, hS, hs⟩ => f2 S hS q hq x hx r hr hs⟩, fun c => ⟨fun ⟨S, hS, hs⟩ => f3 S hS q hq x hx c hs, fun h => ?_⟩⟩
  · refine ⟨fun q x r => q ≤ n ∧ x < 9 ∧ r < 6 ∧ bq (v (26 + x) q) r = true, ⟨fun x r z => z0 x r z.2.1 z.2.2.2, fun i q hi hq x r hx hr z => ?_⟩, hq, hx, hr, h⟩
    have := (m_bits (hP i hi) (hP1 i hi) (hne i hi) _ hr).mp (f6 i hi q hq x hx r (by omega) z.2.2.2).1
    exact tp_ks_mono (hP i hi) (hP1 i hi) hx hr (fun y hy s hs z => ⟨by omega, hy, hs, z⟩) this
  · refine ⟨fun q x c => q ≤ n ∧ x < 9 ∧ bq (v (26 + x) q) 6 = true ∧ v (36 + x) q = c, ⟨fun x c z => ⟨z0 x 6 z.2.1 z.2.2.1, ?_⟩, fun i q hi hq x c hx z => ?_⟩, hq, hx, h⟩
    · rw [← z.2.2.2]; exact f5 x z.2.1
    · obtain ⟨g1, g2⟩ := f6 i hi q hq x hx 6 (by omega) z.2.2.1
      have := (c_bits (hP i hi) (hP1 i hi) (hne i hi) (fun r => v (26 + r) i) (fun r => v (36 + r) i)).mp ⟨g1, (g2 rfl).symm.trans z.2.2.2⟩
      exact tp_vs_mono (hP i hi) hx (fun y hy z => ⟨by omega, hy, z⟩) this
theorem sk_A (n : Nat) (u : tc_S) {q : Nat} (hq : q < 26 ∨ q = 35 ∨ 47 ≤ q) : sk_find n u q = u q := by
  have hf : ∀ i v, sk_fol i v q = v q := fun i v => by unfold sk_fol sk_rs; rw [tc_row_ne (by omega), tc_row_ne (by omega)]
  have hn : ∀ i v, sk_nar i v q = v q := fun i v => tc_col_out (by omega)
  unfold sk_find
  rw [sf_A3 hf hn, sf_A1 (put := sk_put) hf (fun i v => by unfold sk_put; rw [tc_col_out (by omega), tc_col_out (by omega)]), tc_col_out (by omega), tc_col_out (by omega)]
/-- the place that a variable's marks name -/
theorem pf_ct {x : Int32} : ∀ f k, k + f = 7 → (∃ b, k ≤ b ∧ b < 7 ∧ sk_pf x f k = nI b ∧ bq x b = true ∧ ∀ a, k ≤ a → a < b → bq x a = false) ∨ (sk_pf x f k = -1 ∧ ∀ a, k ≤ a → a < 7 → bq x a = false)
  | 0, k, h => Or.inr ⟨rfl, fun a h1 h2 => absurd h2 (by omega)⟩
  | f + 1, k, h => by
    unfold sk_pf
    by_cases z : bq x k = true
    · rw [if_neg (fun q => by rw [bq_shr0 (by omega), z] at q; cases q)]
      exact Or.inl ⟨k, Nat.le_refl k, by omega, rfl, z, fun a h1 h2 => absurd h2 (by omega)⟩
    · rw [if_pos ((bq_shr0 (by omega) x).mpr (Bool.eq_false_iff.mpr z))]
      rcases pf_ct (x := x) f (k + 1) (by omega) with ⟨b, b1, b2, b3, b4, b5⟩ | ⟨b1, b2⟩
      · refine Or.inl ⟨b, by omega, b2, b3, b4, fun a h1 h2 => ?_⟩
        by_cases e : a = k
        · rw [e]; exact Bool.eq_false_iff.mpr z
        · exact b5 a (by omega) h2
      · refine Or.inr ⟨b1, fun a h1 h2 => ?_⟩
        by_cases e : a = k
        · rw [e]; exact Bool.eq_false_iff.mpr z
        · exact b2 a (by omega) h2
theorem pl_ct {n q x : Nat} {P P1 : tp_P} {m g : Int32} (h1 : ∀ r, r < 6 → (bq m r = true ↔ tp_k n P P1 q x r)) (h2 : ∀ c, (tp_v n P q x c ↔ bq m 6 = true ∧ g = c)) : tp_pl n P P1 q x (sk_pf m 7 0) := by
  rcases pf_ct (x := m) 7 0 rfl with ⟨b, b1, b2, b3, b4, b5⟩ | ⟨b1, b2⟩
  · by_cases e : b = 6
    · subst e
      exact Or.inr ⟨fun a ha z => (by rw [← h1 a ha, b5 a (by omega) (by omega)] at z; cases z), Or.inl ⟨⟨g, (h2 g).mpr ⟨b4, rfl⟩⟩, b3⟩⟩
    · exact Or.inl ⟨b, by omega, b3, (h1 b (by omega)).mp b4, fun a ha z => (by rw [← h1 a (by omega), b5 a (by omega) (by omega)] at z; cases z)⟩
  · exact Or.inr ⟨fun a ha z => (by rw [← h1 a ha, b2 a (by omega) (by omega)] at z; cases z), Or.inr ⟨fun ⟨c, z⟩ => (by rw [h2, b2 6 (by omega) (by omega)] at z; cases z.1), b1⟩⟩
/-- a register's carriers -/
theorem kr_ct {m l : Int32} (h : ∀ r, r < 6 → (bq m r = true ↔ bq l r = false)) : m &&& 63 = 63 &&& (l ^^^ (-1)) := by
  apply bq_ext
  intro i hi
  rw [bq_and, bq_and, bq_63 i hi, bq_not _ hi]
  by_cases e : i < 6
  · rw [decide_eq_true e, Bool.and_true, Bool.true_and]
    have := h i e
    cases hl : bq l i
    · exact this.mpr hl
    · rw [Bool.not_true]
      exact Bool.eq_false_iff.mpr fun z => by rw [this.mp z] at hl; cases hl
  · rw [decide_eq_false e, Bool.and_false, Bool.false_and]
