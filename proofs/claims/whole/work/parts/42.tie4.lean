/-! live registers, as the class finds them -/
theorem nd_bits {P : tp_P} {i r : Nat} (hl : tp_line P i) (hr : r < 32) : bq (tp_nd P i) r = true ↔ ∃ j, (j = 1 ∨ j = 2 ∨ j = 3) ∧ tp_rd P i j ∧ P 0 i ≠ 5 ∧ tp_n (P j i) = r := by
  have ns : ∀ j a, bq (tp_ns P i j a) r = true ↔ bq a r = true ∨ (tp_rd P i j ∧ tp_n (P j i) = r) := fun j a => by
    unfold tp_ns
    by_cases rd : tp_rd P i j
    · obtain ⟨c, hc, ec⟩ := tp_rd_reg hl rd
      rw [if_pos rd, bq_or, ec, bq_sh c (by omega) r hr, show tp_n (nI c) = c from nI_clamp (by omega), Bool.or_eq_true, decide_eq_true_eq]
      exact or_congr Iff.rfl ⟨fun h => ⟨rd, h.symm⟩, fun h => h.2.symm⟩
    · rw [if_neg rd]
      exact ⟨Or.inl, fun h => h.elim id (fun h => absurd h.1 rd)⟩
  unfold tp_nd
  by_cases k : P 0 i = 5
  · rw [if_pos k, bq_0]
    exact ⟨fun h => absurd h (by decide), fun ⟨_, _, _, h, _⟩ => absurd k h⟩
  · rw [if_neg k, ns, ns, ns, bq_0]
    constructor
    · rintro (((h | ⟨h1, h2⟩) | ⟨h1, h2⟩) | ⟨h1, h2⟩)
      · cases h
      · exact ⟨1, Or.inl rfl, h1, k, h2⟩
      · exact ⟨2, Or.inr (Or.inl rfl), h1, k, h2⟩
      · exact ⟨3, Or.inr (Or.inr rfl), h1, k, h2⟩
    · rintro ⟨j, rfl | rfl | rfl, h1, -, h2⟩
      · exact Or.inl (Or.inl (Or.inr ⟨h1, h2⟩))
      · exact Or.inl (Or.inr ⟨h1, h2⟩)
      · exact Or.inr ⟨h1, h2⟩
def lz_F (n : Nat) (P : tp_P) (v : tc_S) (i r : Nat) : Prop := (∃ j, (j = 1 ∨ j = 2 ∨ j = 3) ∧ tp_rd P i j ∧ P 0 i ≠ 5 ∧ tp_n (P j i) = r) ∨ (tp_w P i ≠ some r ∧ (bq (v 23 (i + 1)) r = true ∨ bq (v 23 (tp_tg n P i)) r = true))
theorem bh_bits {n i r : Nat} {v : tc_S} : bq (sl_bh n v i) r = true ↔ (bq (v 23 (i + 1)) r = true ∨ bq (v 23 (tp_tg n (pv v 9) i)) r = true) := by unfold sl_bh; rw [bq_or, Bool.or_eq_true]
theorem bf_bits0 {n i r : Nat} {v : tc_S} (hl : tp_line (pv v 9) i) (hr : r < 32) : bq (sl_bf n v i) r = true ↔ lz_F n (pv v 9) v i r := by
  unfold sl_bf lz_F
  rw [bq_or, Bool.or_eq_true, nd_bits hl hr, or_comm]
  refine or_congr Iff.rfl ?_
  by_cases k : pv v 9 0 i = 0 ∨ pv v 9 0 i = 1 ∨ pv v 9 0 i = 2
  · obtain ⟨a, ha, ea⟩ := hl.2.1 (by rcases k with k | k | k <;> rw [k] <;> decide)
    have ew : tp_wI (pv v 9) i = nI a := by unfold tp_wI; rw [if_pos k, ea]
    have ew2 : tp_w (pv v 9) i = some a := by unfold tp_w; rw [if_pos k, ea, show tp_n (nI a) = a from nI_clamp (by omega)]
    rw [ew, if_neg (nI_m1' (by omega)), bq_and, bq_not _ hr, bq_sh a (by omega) r hr, Bool.and_eq_true, bh_bits, ew2, and_comm]
    refine and_congr ?_ Iff.rfl
    rw [Bool.not_eq_true', decide_eq_false_iff_not]
    exact ⟨fun h z => h (Option.some.inj z).symm, fun h z => h (by rw [z])⟩
  · have ew : tp_wI (pv v 9) i = -1 := if_neg k
    have ew2 : tp_w (pv v 9) i = none := if_neg k
    rw [ew, if_pos rfl, bh_bits, ew2]
    exact ⟨fun h => ⟨(fun z => (by cases z)), h⟩, fun h => h.2⟩
theorem bf_bits {n i r : Nat} {P : tp_P} {v : tc_S} (hag : ag n (pv v 9) P) (hi : i < n) (hl : tp_line P i) (hr : r < 32) : bq (sl_bf n v i) r = true ↔ lz_F n P v i r := by
  rw [bf_bits0 (ag_line hag hi hl) hr]
  unfold lz_F
  rw [ag_w hag hi, ag_tg hag hi]
  refine or_congr ⟨?_, ?_⟩ Iff.rfl
  · rintro ⟨j, hj, h1, h2, h3⟩
    exact ⟨j, hj, (ag_rd hag hi).mp h1, by rw [← hag 0 i (by decide) hi]; exact h2, by rw [← hag j i (by omega) hi]; exact h3⟩
  · rintro ⟨j, hj, h1, h2, h3⟩
    exact ⟨j, hj, (ag_rd hag hi).mpr h1, by rw [hag 0 i (by decide) hi]; exact h2, by rw [hag j i (by omega) hi]; exact h3⟩
theorem lz_Fm {n i r : Nat} {P : tp_P} {v w : tc_S} (h : ∀ q, bq (v 23 q) r = true → bq (w 23 q) r = true) (hF : lz_F n P v i r) : lz_F n P w i r := by
  rcases hF with a | ⟨a, b | b⟩
  · exact Or.inl a
  · exact Or.inr ⟨a, Or.inl (h _ b)⟩
  · exact Or.inr ⟨a, Or.inr (h _ b)⟩
/-- how many bits are not yet found -/
def lm_z (x : Int32) : Nat → Nat
  | 0 => 0
  | r + 1 => lm_z x r + (if bq x r = true then 0 else 1)
def lm_Z (v : tc_S) : Nat → Nat
  | 0 => 0
  | q + 1 => lm_Z v q + lm_z (v 23 q) 6
theorem lm_z_bd (x : Int32) : ∀ r, lm_z x r ≤ r
  | 0 => Nat.le_refl 0
  | r + 1 => by
    have := lm_z_bd x r
    unfold lm_z
    split <;> omega
theorem lm_Z_bd (v : tc_S) : ∀ q, lm_Z v q ≤ 6 * q
  | 0 => Nat.le_refl 0
  | q + 1 => by
    have := lm_Z_bd v q
    have := lm_z_bd (v 23 q) 6
    unfold lm_Z
    omega
theorem lm_z_le {x y : Int32} (h : ∀ r, r < 6 → bq x r = true → bq y r = true) : ∀ r, r ≤ 6 → lm_z y r ≤ lm_z x r
  | 0, _ => Nat.le_refl 0
  | r + 1, hr => by
    have := lm_z_le h r (by omega)
    unfold lm_z
    by_cases e : bq x r = true
    · rw [if_pos e, if_pos (h r (by omega) e)]; omega
    · rw [if_neg e]
      split <;> omega
theorem lm_z_lt {x y : Int32} (h : ∀ r, r < 6 → bq x r = true → bq y r = true) {a : Nat} (hx : ¬ bq x a = true) (hy : bq y a = true) : ∀ r, r ≤ 6 → a < r → lm_z y r < lm_z x r
  | 0, _, z => by omega
  | r + 1, hr, z => by
    have t := lm_z_le h r (by omega)
    unfold lm_z
    by_cases e : a = r
    · subst e
      rw [if_neg hx, if_pos hy]; omega
    · have := lm_z_lt h hx hy r (by omega) (by omega)
      by_cases e : bq x r = true
      · rw [if_pos e, if_pos (h r (by omega) e)]; omega
      · rw [if_neg e]
        split <;> omega
theorem lm_Z_le {v w : tc_S} (h : ∀ q r, r < 6 → bq (v 23 q) r = true → bq (w 23 q) r = true) : ∀ q, lm_Z w q ≤ lm_Z v q
  | 0 => Nat.le_refl 0
  | q + 1 => by
    have := lm_Z_le h q
    have := lm_z_le (h q) 6 (by omega)
    unfold lm_Z
    omega
theorem lm_Z_lt {v w : tc_S} (h : ∀ q r, r < 6 → bq (v 23 q) r = true → bq (w 23 q) r = true) {q0 a : Nat} (ha : a < 6) (hx : ¬ bq (v 23 q0) a = true) (hy : bq (w 23 q0) a = true) : ∀ q, q0 < q → lm_Z w q < lm_Z v q
  | 0, z => by omega
  | q + 1, z => by
    have t := lm_Z_le h q
    have t2 := lm_z_le (h q) 6 (by omega)
    unfold lm_Z
    by_cases e : q0 = q
    · subst e
      have := lm_z_lt (h q0) hx hy 6 (by omega) ha
      omega
    · have := lm_Z_lt h ha hx hy q (by omega)
      omega
def lz_I (n : Nat) (u v : tc_S) : Prop := sl_F u v ∧ (∀ q, q ≤ n → ∀ r, r < 32 → bq (v 23 q) r = true → r < 6 ∧ tp_l n (pv u 9) q r) ∧ ∀ i, i < n → ∀ r, r < 32 → bq (v 23 i) r = true → lz_F n (pv u 9) v i r
theorem sl_ag {n : Nat} {u v : tc_S} (h : sl_F u v) : ag n (pv v 9) (pv u 9) := fun j i hj hi => sl_Fpv h hj
theorem lz_snd {n i r : Nat} {u v : tc_S} (hP : ∀ i, i < n → tp_line (pv u 9) i) (hi : i < n) (h2 : ∀ q, q ≤ n → ∀ r, r < 32 → bq (v 23 q) r = true → r < 6 ∧ tp_l n (pv u 9) q r) (hr : r < 32) (h : lz_F n (pv u 9) v i r) : r < 6 ∧ tp_l n (pv u 9) i r := by
  rcases h with ⟨j, hj, h1, h3, h4⟩ | ⟨h1, h3⟩
  · obtain ⟨a, ha, ea⟩ := tp_rd_reg (hP i hi) h1
    refine ⟨by rw [← h4, ea, show tp_n (nI a) = a from nI_clamp (by omega)]; exact ha, fun S hS => hS i r hi (Or.inl ⟨j, hj, h1, h3, h4⟩)⟩
  · rcases h3 with h3 | h3
    · obtain ⟨a, b⟩ := h2 (i + 1) (by omega) r hr h3
      exact ⟨a, fun S hS => hS i r hi (Or.inr ⟨h1, i + 1, Or.inl rfl, b S hS⟩)⟩
    · obtain ⟨a, b⟩ := h2 _ (tp_tg_le hi) r hr h3
      exact ⟨a, fun S hS => hS i r hi (Or.inr ⟨h1, _, Or.inr rfl, b S hS⟩)⟩
theorem lz_st {n i : Nat} {u v : tc_S} (hn : n ≤ 16) (hP : ∀ i, i < n → tp_line (pv u 9) i) (hi : i < n) (h : lz_I n u v) : lz_I n u (tc_up v 23 i (sl_bf n v i)) ∧ lm_Z (tc_up v 23 i (sl_bf n v i)) 17 ≤ lm_Z v 17 ∧ (sl_bf n v i = v 23 i → tc_up v 23 i (sl_bf n v i) = v) ∧ (¬ sl_bf n v i = v 23 i → lm_Z (tc_up v 23 i (sl_bf n v i)) 17 < lm_Z v 17) := by
  obtain ⟨h1, h2, h3⟩ := h
  have hb : ∀ r, r < 32 → (bq (sl_bf n v i) r = true ↔ lz_F n (pv u 9) v i r) := fun r hr => bf_bits (sl_ag h1) hi (hP i hi) hr
  have val : ∀ q, tc_up v 23 i (sl_bf n v i) 23 q = if q = i then sl_bf n v i else v 23 q := fun q => by rw [tc_up_v, if_pos rfl]
  have up : ∀ q r, r < 32 → bq (v 23 q) r = true → bq (tc_up v 23 i (sl_bf n v i) 23 q) r = true := fun q r hr z => by
    rw [val]
    by_cases e : q = i
    · rw [if_pos e]; rw [e] at z; exact (hb r hr).mpr (h3 i hi r hr z)
    · rw [if_neg e]; exact z
  refine ⟨⟨h1.tr (fun q hq => tc_up_ne hq), fun q hq r hr z => ?_, fun q hq r hr z => ?_⟩, lm_Z_le (fun q r hr => up q r (by omega)) 17, fun e => ?_, fun ne => ?_⟩
  · rw [val] at z
    by_cases e : q = i
    · rw [if_pos e] at z; rw [e]; exact lz_snd hP hi h2 hr ((hb r hr).mp z)
    · rw [if_neg e] at z; exact h2 q hq r hr z
  · rw [val] at z
    refine lz_Fm (fun q => up q r hr) ?_
    by_cases e : q = i
    · rw [if_pos e] at z; rw [e]; exact (hb r hr).mp z
    · rw [if_neg e] at z; exact h3 q hq r hr z
  · funext k j
    rw [tc_up_v]
    by_cases ek : k = 23
    · subst ek
      rw [if_pos rfl]
      by_cases ej : j = i
      · rw [if_pos ej, e, ej]
      · rw [if_neg ej]
    · rw [if_neg ek]
  · have : ∃ r, r < 32 ∧ ¬ bq (v 23 i) r = true ∧ bq (sl_bf n v i) r = true := Classical.byContradiction fun no => ne (bq_ext fun r hr => by
      by_cases z : bq (v 23 i) r = true
      · rw [z, (hb r hr).mpr (h3 i hi r hr z)]
      · rw [Bool.eq_false_iff.mpr z]
        exact Bool.eq_false_iff.mpr fun y => no ⟨r, hr, z, y⟩)
    obtain ⟨r, hr, z1, z2⟩ := this
    have r6 := (lz_snd hP hi h2 hr ((hb r hr).mp z2)).1
    exact lm_Z_lt (fun q r hr => up q r (by omega)) r6 z1 (by rw [val, if_pos rfl]; exact z2) 17 (by omega)
theorem lz_ps {n : Nat} {u : tc_S} (hn : n ≤ 16) (hP : ∀ i, i < n → tp_line (pv u 9) i) {v : tc_S} (h : lz_I n u v) : ∀ k, k ≤ n → lz_I n u (sl_ps n k (v, 0)).1 ∧ lm_Z (sl_ps n k (v, 0)).1 17 ≤ lm_Z v 17 ∧ ((sl_ps n k (v, 0)).2 = 0 → (sl_ps n k (v, 0)).1 = v ∧ ∀ i, n - k ≤ i → i < n → sl_bf n v i = v 23 i) ∧ (¬ (sl_ps n k (v, 0)).2 = 0 → lm_Z (sl_ps n k (v, 0)).1 17 < lm_Z v 17)
  | 0, _ => ⟨h, Nat.le_refl _, fun _ => ⟨rfl, fun i h1 h2 => absurd h2 (by omega)⟩, fun z => absurd rfl z⟩
  | k + 1, hk => by
    obtain ⟨a1, a2, a3, a4⟩ := lz_ps hn hP h k (by omega)
    show lz_I n u (tc_up (sl_ps n k (v, 0)).1 23 (n - k - 1) (sl_bf n (sl_ps n k (v, 0)).1 (n - k - 1))) ∧ lm_Z (tc_up (sl_ps n k (v, 0)).1 23 (n - k - 1) (sl_bf n (sl_ps n k (v, 0)).1 (n - k - 1))) 17 ≤ lm_Z v 17 ∧ ((sl_ps n k (v, 0)).2 ||| (if sl_bf n (sl_ps n k (v, 0)).1 (n - k - 1) = (sl_ps n k (v, 0)).1 23 (n - k - 1) then 0 else 1) = 0 → tc_up (sl_ps n k (v, 0)).1 23 (n - k - 1) (sl_bf n (sl_ps n k (v, 0)).1 (n - k - 1)) = v ∧ ∀ i, n - (k + 1) ≤ i → i < n → sl_bf n v i = v 23 i) ∧ (¬ (sl_ps n k (v, 0)).2 ||| (if sl_bf n (sl_ps n k (v, 0)).1 (n - k - 1) = (sl_ps n k (v, 0)).1 23 (n - k - 1) then 0 else 1) = 0 → lm_Z (tc_up (sl_ps n k (v, 0)).1 23 (n - k - 1) (sl_bf n (sl_ps n k (v, 0)).1 (n - k - 1))) 17 < lm_Z v 17)
    generalize sl_ps n k (v, 0) = x at a1 a2 a3 a4 ⊢
    obtain ⟨b1, b2, b3, b4⟩ := lz_st (i := n - k - 1) hn hP (by omega) a1
    refine ⟨b1, by omega, fun z => ?_, fun z => ?_⟩
    · obtain ⟨z1, z2⟩ := or_z.mp z
      obtain ⟨c1, c2⟩ := a3 z1
      have e : sl_bf n x.1 (n - k - 1) = x.1 23 (n - k - 1) := Classical.byContradiction fun q => by
        rw [if_neg q] at z2; exact absurd z2 (by decide)
      refine ⟨(b3 e).trans c1, fun i h1 h2 => ?_⟩
      by_cases ei : i = n - k - 1
      · rw [ei, ← c1]; exact e
      · exact c2 i (by omega) h2
    · by_cases z1 : x.2 = 0
      · have e : ¬ sl_bf n x.1 (n - k - 1) = x.1 23 (n - k - 1) := fun q => z (by rw [if_pos q, z1]; rfl)
        have := b4 e
        omega
      · have := a4 z1
        omega
theorem lz_rp {n : Nat} {u : tc_S} (hn : n ≤ 16) (hP : ∀ i, i < n → tp_line (pv u 9) i) : ∀ f v, lz_I n u v → lm_Z v 17 < f → lz_I n u (sl_rp n f v) ∧ ∀ i, i < n → sl_bf n (sl_rp n f v) i = sl_rp n f v 23 i
  | 0, v, _, h => absurd h (by omega)
  | f + 1, v, hI, h => by
    obtain ⟨h1, h2, h3, h4⟩ := lz_ps hn hP hI n (Nat.le_refl n)
    unfold sl_rp
    by_cases z : (sl_ps n n (v, 0)).2 = 0
    · rw [if_pos z]
      obtain ⟨e, c⟩ := h3 z
      rw [e]
      exact ⟨hI, fun i hi => c i (by omega) hi⟩
    · rw [if_neg z]
      exact lz_rp hn hP f _ h1 (by have := h4 z; omega)
/-- what findLive finds -/
theorem sl_c {n : Nat} {u : tc_S} (hn : n ≤ 16) (hP : ∀ i, i < n → tp_line (pv u 9) i) : ∀ q, q ≤ n → ∀ r, r < 6 → (bq (sl_find n u 23 q) r = true ↔ tp_l n (pv u 9) q r) := by
  have v0 : ∀ q, q ≤ n → (tc_row u 23 (fun _ => 0) 17) 23 q = 0 := fun q hq => tc_row_in (by omega)
  obtain ⟨⟨h1, h2, h3⟩, h4⟩ := lz_rp hn hP 1000000 (tc_row u 23 (fun _ => 0) 17) ⟨fun q hq => tc_row_ne hq, fun q hq r hr z => (by rw [v0 q hq, bq_0] at z; cases z), fun i hi r hr z => (by rw [v0 i (by omega), bq_0] at z; cases z)⟩ (by have := lm_Z_bd (tc_row u 23 (fun _ => 0) 17) 17; omega)
  intro q hq r hr
  unfold sl_find
  generalize sl_rp n 1000000 (tc_row u 23 (fun _ => 0) 17) = v at h1 h2 h3 h4 ⊢
  refine ⟨fun z => (h2 q hq r (by omega) z).2, fun z => ?_⟩
  refine (z (fun q r => r < 32 ∧ bq (v 23 q) r = true) (fun i r hi y => ?_)).2
  have r32 : r < 32 := by
    rcases y with ⟨j, hj, y1, y2, y3⟩ | ⟨y1, q, y2, y3⟩
    · obtain ⟨a, ha, ea⟩ := tp_rd_reg (hP i hi) y1
      rw [ea, show tp_n (nI a) = a from nI_clamp (by omega)] at y3
      omega
    · exact y3.1
  refine ⟨r32, ?_⟩
  rw [← h4 i hi]
  refine (bf_bits (sl_ag h1) hi (hP i hi) r32).mpr ?_
  rcases y with y | ⟨y1, q, y2, y3⟩
  · exact Or.inl y
  · refine Or.inr ⟨y1, ?_⟩
    rcases y2 with e | e
    · rw [e] at y3; exact Or.inl y3.2
    · rw [e] at y3; exact Or.inr y3.2
/-! the second half of a round -/
theorem so_dead {n i : Nat} {u v : tc_S} (hn : n ≤ 16) (hP : ∀ i, i < n → tp_line (pv u 9) i) (hi : i < n) (h23 : v 23 = sl_find n u 23) (hv : ∀ j, j < 4 → pv v 9 j i = pv u 9 j i) : so_q n v i ↔ tp_dead n (pv u 9) i := by
  have hw : tp_wI (pv v 9) i = tp_wI (pv u 9) i := by unfold tp_wI; rw [hv 0 (by omega), hv 1 (by omega)]
  have htg : tp_tg n (pv v 9) i = tp_tg n (pv u 9) i := by unfold tp_tg; rw [hv 0 (by omega), hv 2 (by omega)]
  unfold so_q
  rw [hw]
  by_cases k : pv u 9 0 i = 0 ∨ pv u 9 0 i = 1 ∨ pv u 9 0 i = 2
  · obtain ⟨a, ha, ea⟩ := (hP i hi).2.1 (by rcases k with k | k | k <;> rw [k] <;> decide)
    have ew : tp_wI (pv u 9) i = nI a := by unfold tp_wI; rw [if_pos k, ea]
    have ew2 : tp_w (pv u 9) i = some a := by unfold tp_w; rw [if_pos k, ea, show tp_n (nI a) = a from nI_clamp (by omega)]
    rw [ew, bq_shr0 (by omega)]
    have hb : bq (sl_bh n v i) a = true ↔ ∃ q, tp_nx n (pv u 9) i q ∧ tp_l n (pv u 9) q a := by
      rw [bh_bits, h23, htg, sl_c hn hP (i + 1) (by omega) a ha, sl_c hn hP _ (tp_tg_le hi) a ha]
      constructor
      · rintro (z | z)
        · exact ⟨_, Or.inl rfl, z⟩
        · exact ⟨_, Or.inr rfl, z⟩
      · rintro ⟨q, e | e, z⟩
        · rw [e] at z; exact Or.inl z
        · rw [e] at z; exact Or.inr z
    constructor
    · rintro ⟨-, z⟩
      exact ⟨a, ew2, fun y => by rw [hb.mpr y] at z; cases z⟩
    · rintro ⟨r, z1, z2⟩
      rw [ew2] at z1
      rw [← Option.some.inj z1] at z2
      exact ⟨nI_m1' (by omega), Bool.eq_false_iff.mpr fun y => z2 (hb.mp y)⟩
  · have ew : tp_wI (pv u 9) i = -1 := if_neg k
    have ew2 : tp_w (pv u 9) i = none := if_neg k
    rw [ew]
    refine ⟨fun z => absurd rfl z.1, fun ⟨r, z, _⟩ => ?_⟩
    rw [ew2] at z; cases z
theorem so_ls_c {n : Nat} {u : tc_S} (hn : n ≤ 16) (hP : ∀ i, i < n → tp_line (pv u 9) i) : ∀ i, i ≤ n → (∀ q, q < 9 ∨ 13 ≤ q → (so_ls n i (sl_find n u, 0)).1 q = sl_find n u q) ∧ (∀ j z, j < 4 → z < n → pv (so_ls n i (sl_find n u, 0)).1 9 j z = if z < i then tp_leave n (pv u 9) j z else pv u 9 j z) ∧ ((so_ls n i (sl_find n u, 0)).2 = 0 ↔ ¬ ∃ z, z < i ∧ tp_dead n (pv u 9) z)
  | 0, _ => ⟨fun _ _ => rfl, fun j z hj hz => by rw [if_neg (by omega)]; exact sl_Fpv (sl_findF n u) hj, ⟨fun _ ⟨z, hz, _⟩ => absurd hz (by omega), fun _ => rfl⟩⟩
  | i + 1, hi => by
    obtain ⟨a1, a2, a3⟩ := so_ls_c hn hP i (by omega)
    show (∀ q, q < 9 ∨ 13 ≤ q → (so_l1 n i (so_ls n i (sl_find n u, 0))).1 q = _) ∧ (∀ j z, j < 4 → z < n → pv (so_l1 n i (so_ls n i (sl_find n u, 0))).1 9 j z = _) ∧ ((so_l1 n i (so_ls n i (sl_find n u, 0))).2 = 0 ↔ _)
    generalize so_ls n i (sl_find n u, 0) = x at a1 a2 a3 ⊢
    have r0 : ∀ j, j < 4 → pv x.1 9 j i = pv u 9 j i := fun j hj => by rw [a2 j i hj (by omega), if_neg (by omega)]
    have hd := so_dead (v := x.1) hn hP (i := i) (by omega) (a1 23 (by omega)) r0
    have ne : ∀ j z, j < 4 → z < n → z ≠ i → pv x.1 9 j z = if z < i + 1 then tp_leave n (pv u 9) j z else pv u 9 j z := fun j z hj hz hne => by
      rw [a2 j z hj hz]
      by_cases h : z < i
      · rw [if_pos h, if_pos (by omega)]
      · rw [if_neg h, if_neg (by omega)]
    unfold so_l1
    by_cases h : tp_dead n (pv u 9) i
    · rw [if_pos (hd.mpr h)]
      refine ⟨fun q hq => by show sp_me i x.1 q = _; rw [sp_me_out hq]; exact a1 q hq, fun j z hj hz => ?_, ⟨fun q => absurd (show (1 : Int32) = 0 from q) (by decide), fun q => absurd ⟨i, by omega, h⟩ q⟩⟩
      show pv (sp_me i x.1) 9 j z = _
      by_cases ez : z = i
      · rw [ez, sp_me_at hj, if_pos (show i < i + 1 by omega), tp_leave_d (by omega) hj h]
      · rw [sp_me_ne ez]; exact ne j z hj hz ez
    · rw [if_neg (fun q => h (hd.mp q))]
      refine ⟨a1, fun j z hj hz => ?_, ?_⟩
      · by_cases ez : z = i
        · rw [ez, if_pos (show i < i + 1 by omega), tp_leave_n (by omega) hj h]; exact r0 j hj
        · exact ne j z hj hz ez
      · rw [a3]
        constructor
        · rintro h0 ⟨z, hz, hq⟩
          by_cases ez : z = i
          · rw [ez] at hq; exact h hq
          · exact h0 ⟨z, by omega, hq⟩
        · rintro h0 ⟨z, hz, hq⟩
          exact h0 ⟨z, by omega, hq⟩
theorem so_leave_c {n : Nat} {u : tc_S} (hn : n ≤ 16) (hP : ∀ i, i < n → tp_line (pv u 9) i) : (∀ q, (q < 9 ∨ 13 ≤ q) → q ≠ 23 → (so_leave n u).1 q = u q) ∧ ag n (pv (so_leave n u).1 9) (tp_leave n (pv u 9)) ∧ ((so_leave n u).2 = 0 ↔ ¬ tp_lch n (pv u 9)) := by
  obtain ⟨h1, h2, h3⟩ := so_ls_c hn hP n (Nat.le_refl n)
  refine ⟨fun q hq h23 => ?_, fun j i hj hi => ?_, h3⟩
  · show (so_ls n n (sl_find n u, 0)).1 q = _
    rw [h1 q hq]; exact sl_findF n u q h23
  · show pv (so_ls n n (sl_find n u, 0)).1 9 j i = _
    rw [h2 j i hj hi, if_pos hi]
/-! what settling leaves as it was -/
theorem sf_A1 {fol put : Nat → tc_S → tc_S} {q : Nat} (hf : ∀ i v, fol i v q = v q) (hp : ∀ i v, put i v q = v q) (u : tc_S) : ∀ i, sf_1 fol put i u q = u q
  | 0 => rfl
  | i + 1 => (hp _ _).trans ((hf _ _).trans (sf_A1 hf hp u i))
theorem sf_A2 {fol nar : Nat → tc_S → tc_S} {nch : Nat → tc_S → Int32} {tg : Nat → tc_S → Nat} {q : Nat} (hf : ∀ i v, fol i v q = v q) (hn : ∀ i v, nar i v q = v q) (x : tc_S × Int32) : ∀ i, (sf_2 fol nar nch tg i x).1 q = x.1 q
  | 0 => rfl
  | i + 1 => (hn _ _).trans ((hn _ _).trans ((hf _ _).trans (sf_A2 hf hn x i)))
theorem sf_A3 {fol nar : Nat → tc_S → tc_S} {nch : Nat → tc_S → Int32} {tg : Nat → tc_S → Nat} {n q : Nat} (hf : ∀ i v, fol i v q = v q) (hn : ∀ i v, nar i v q = v q) : ∀ f u, sf_3 fol nar nch tg n f u q = u q
  | 0, _ => rfl
  | f + 1, u => by
    unfold sf_3
    split
    · exact sf_A2 hf hn (u, 0) n
    · exact (sf_A3 hf hn f _).trans (sf_A2 hf hn (u, 0) n)
theorem sp_A (n : Nat) (u : tc_S) {q : Nat} (hq : q < 16 ∨ 23 ≤ q) : sp_find n u q = u q := by
  have hf : ∀ i v, sp_fol i v q = v q := fun i v => tc_row_ne (by omega)
  have hn : ∀ i v, sp_nar i v q = v q := fun i v => tc_col_out (by omega)
  unfold sp_find
  rw [sf_A3 hf hn, sf_A1 (put := sp_put) hf (fun i v => by unfold sp_put; exact tc_col_out (by omega)), tc_col_out (by omega)]
theorem sp_pass_A {n : Nat} {u : tc_S} (hn : n ≤ 16) (hP : ∀ i, i < n → tp_line (pv u 9) i) {q : Nat} (hq : q < 9 ∨ (13 ≤ q ∧ q < 16) ∨ 23 ≤ q) : (sp_pass n u).1 q = u q := by
  show (sp_ls n (sp_find n u, 0)).1 q = _
  rw [(pp_ls hn hP n (Nat.le_refl n)).1 q (by omega)]; exact sp_A n u (by omega)
/-! all rounds -/
theorem sr_e {n K : Nat} {Q : tp_P} (hn : n ≤ 16) (hK : ¬ tp_ch n (tp_it n Q K)) (hc : ∀ j, j < K → tp_ch n (tp_it n Q j)) (hN : tp_nrm n Q) : ∀ f k t v, k ≤ K → K < k + f → sp_I n v → ag n (pv v 9) (tp_it n Q k) → (sr n f t v).1 + k = t + K ∧ sp_I n (sr n f t v).2 ∧ ag n (pv (sr n f t v).2 9) (tp_it n Q K) ∧ ∀ q, q < 9 ∨ (13 ≤ q ∧ q < 16) ∨ 24 ≤ q → (sr n f t v).2 q = v q
  | 0, k, t, v, h1, h2, _, _ => absurd h2 (by omega)
  | f + 1, k, t, v, h1, h2, hI, hag => by
    obtain ⟨-, p2, p3⟩ := sp_pass_c hn hI.2.1
    have hI1 := sp_I_pass hn hI
    obtain ⟨l1, l2, l3⟩ := so_leave_c hn hI1.2.1
    have hagp : ag n (pv (sp_pass n v).1 9) (tp_pass n (tp_it n Q k)) := by rw [← ag_pass hag]; exact p2
    have hag1 : ag n (pv (sr_1 n v) 9) (tp_it n Q (k + 1)) := by
      show ag n (pv (so_leave n (sp_pass n v).1).1 9) (tp_leave n (tp_pass n (tp_it n Q k)))
      rw [← ag_leave hagp]; exact l2
    have hch : sr_c n v ↔ tp_ch n (tp_it n Q k) := by
      unfold sr_c tp_ch
      rw [p3, l3]
      constructor
      · rintro (z | z)
        · exact Or.inl (ag_pch hag (Classical.byContradiction z))
        · exact Or.inr (ag_lch hagp (Classical.byContradiction z))
      · rintro (z | z)
        · exact Or.inl (fun y => y (ag_pch hag.sy z))
        · exact Or.inr (fun y => y (ag_lch hagp.sy z))
    have hI2 := sr_I hn hI
    have fr : ∀ q, q < 9 ∨ (13 ≤ q ∧ q < 16) ∨ 24 ≤ q → sr_1 n v q = v q := fun q hq => by
      show (so_leave n (sp_pass n v).1).1 q = _
      rw [l1 q (by omega) (by omega), sp_pass_A hn hI.2.1 (by omega)]
    unfold sr
    by_cases e : k = K
    · subst e
      rw [if_neg (fun z => hK (hch.mp z))]
      refine ⟨rfl, hI2, ?_, fr⟩
      have := tp_same (tp_it_nrm hN k) hK
      intro j i hj hi
      rw [hag1 j i hj hi]
      exact congrFun (congrFun this j) i
    · rw [if_pos (hch.mpr (hc k (by omega)))]
      obtain ⟨r1, r2, r3, r4⟩ := sr_e hn hK hc hN f (k + 1) (t + 1) (sr_1 n v) (by omega) (by omega) hI2 hag1
      exact ⟨by omega, r2, r3, fun q hq => (r4 q hq).trans (fr q hq)⟩
