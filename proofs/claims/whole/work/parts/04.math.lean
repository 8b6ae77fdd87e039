/-! What a program means, apart from any machine: P j i is the number at place j of line i; n lines. -/
abbrev tp_P : Type := Nat → Nat → Int32
def tp_n (x : Int32) : Nat := x.toNatClampNeg
/-- the register that a line writes -/
def tp_w (P : tp_P) (i : Nat) : Option Nat := if P 0 i = 0 ∨ P 0 i = 1 ∨ P 0 i = 2 then some (tp_n (P 1 i)) else none
def tp_tg (n : Nat) (P : tp_P) (i : Nat) : Nat := if P 0 i = 4 then (if tp_n (P 2 i) < n then tp_n (P 2 i) else n) else i + 1
def tp_nx (n : Nat) (P : tp_P) (i q : Nat) : Prop := q = i + 1 ∨ q = tp_tg n P i
/-- a line reads a register at a place -/
def tp_rd (P : tp_P) (i j : Nat) : Prop := (j = 1 ∧ (P 0 i = 3 ∨ P 0 i = 4)) ∨ (j = 2 ∧ (P 0 i = 1 ∨ P 0 i = 2 ∨ P 0 i = 5)) ∨ (j = 3 ∧ P 0 i = 2)
def tp_line (P : tp_P) (i : Nat) : Prop :=
  (P 0 i = -1 ∨ P 0 i = 0 ∨ P 0 i = 1 ∨ P 0 i = 2 ∨ P 0 i = 3 ∨ P 0 i = 4 ∨ P 0 i = 5) ∧ (P 0 i ≠ -1 → ∃ a, a < 6 ∧ P 1 i = nI a) ∧ (P 0 i = 1 ∨ P 0 i = 2 ∨ P 0 i = 5 → ∃ a, a < 6 ∧ P 2 i = nI a) ∧ (P 0 i = 4 → ∃ a, a < 17 ∧ P 2 i = nI a) ∧ (P 0 i = 2 → ∃ a, a < 6 ∧ P 3 i = nI a) ∧ (P 0 i = 5 → ∃ a, a < 3 ∧ P 1 i = nI a)
/-- copies -/
def tp_cb (P : tp_P) (i s u : Nat) : Prop := P 0 i = 1 ∧ tp_n (P 1 i) = s ∧ tp_n (P 2 i) = u ∧ s ≠ u
def tp_cs (n : Nat) (P : tp_P) (S : Nat → Nat → Nat → Prop) : Prop := (∀ s u, ¬ S 0 s u) ∧ ∀ i q, i < n → tp_nx n P i q → ∀ s u, S q s u → tp_cb P i s u ∨ (S i s u ∧ tp_w P i ≠ some s ∧ tp_w P i ≠ some u)
def tp_c (n : Nat) (P : tp_P) (q s u : Nat) : Prop := ∃ S, tp_cs n P S ∧ S q s u
theorem tp_c_is {n : Nat} {P : tp_P} {D : Nat → Nat → Nat → Prop} (h1 : tp_cs n P D) (h2 : ∀ S, tp_cs n P S → ∀ q, q ≤ n → ∀ s u, S q s u → D q s u) {q s u : Nat} (hq : q ≤ n) : tp_c n P q s u ↔ D q s u :=
  ⟨fun ⟨S, hS, h⟩ => h2 S hS q hq s u h, fun h => ⟨D, h1, h⟩⟩
theorem tp_c_one {n : Nat} {P : tp_P} : ∀ q, q ≤ n → ∀ s u v, tp_c n P q s u → tp_c n P q s v → u = v := by
  intro q
  induction q with
  | zero => intro _ s u v ⟨S, hS, h⟩ _; exact absurd h (hS.1 s u)
  | succ q ih =>
    intro hq s u v ⟨S, hS, h⟩ ⟨S', hS', h'⟩
    have a := hS.2 q (q + 1) hq (Or.inl rfl) s u h
    have b := hS'.2 q (q + 1) hq (Or.inl rfl) s v h'
    have wc : ∀ u, tp_cb P q s u → tp_w P q = some s := by
      intro u hu
      unfold tp_w
      rw [if_pos (Or.inr (Or.inl hu.1)), hu.2.1]
    rcases a with a | a <;> rcases b with b | b
    · exact a.2.2.1.symm.trans b.2.2.1
    · exact absurd (wc u a) b.2.1
    · exact absurd (wc v b) a.2.1
    · exact ih (by omega) s u v ⟨S, hS, a.1⟩ ⟨S', hS', b.1⟩
noncomputable def tp_org (n : Nat) (P : tp_P) (i s : Nat) : Int32 := @dite _ (∃ u, tp_c n P i s u) (Classical.propDecidable _) (fun h => nI (Classical.choose h)) (fun _ => -1)
theorem tp_org_some {n : Nat} {P : tp_P} {i s u : Nat} (hi : i ≤ n) (h : tp_c n P i s u) : tp_org n P i s = nI u := by
  unfold tp_org
  rw [dif_pos ⟨u, h⟩]
  exact congrArg nI (tp_c_one i hi s _ u (Classical.choose_spec (⟨u, h⟩ : ∃ u, tp_c n P i s u)) h)
theorem tp_org_none {n : Nat} {P : tp_P} {i s : Nat} (h : ¬ ∃ u, tp_c n P i s u) : tp_org n P i s = -1 := by
  unfold tp_org
  rw [dif_neg h]
/-- one round's first half -/
def tp_q (n : Nat) (P : tp_P) (j i : Nat) : Prop := tp_rd P i j ∧ ∃ u, tp_c n P i (tp_n (P j i)) u
noncomputable def tp_p1 (n : Nat) (P : tp_P) (j i : Nat) : Int32 := @ite _ (tp_q n P j i) (Classical.propDecidable _) (tp_org n P i (tp_n (P j i))) (P j i)
noncomputable def tp_pass (n : Nat) (P : tp_P) : tp_P := fun j i => if i < n ∧ j < 4 then (if P 0 i = 1 ∧ tp_p1 n P 1 i = tp_p1 n P 2 i then (if j = 0 then -1 else 0) else tp_p1 n P j i) else 0
def tp_pch (n : Nat) (P : tp_P) : Prop := ∃ i, i < n ∧ ((∃ j, j < 4 ∧ tp_q n P j i) ∨ (P 0 i = 1 ∧ tp_p1 n P 1 i = tp_p1 n P 2 i))
/-- live registers -/
def tp_lc (n : Nat) (P : tp_P) (S : Nat → Nat → Prop) : Prop := ∀ i r, i < n → ((∃ j, (j = 1 ∨ j = 2 ∨ j = 3) ∧ tp_rd P i j ∧ P 0 i ≠ 5 ∧ tp_n (P j i) = r) ∨ (tp_w P i ≠ some r ∧ ∃ q, tp_nx n P i q ∧ S q r)) → S i r
def tp_l (n : Nat) (P : tp_P) (q r : Nat) : Prop := ∀ S, tp_lc n P S → S q r
def tp_dead (n : Nat) (P : tp_P) (i : Nat) : Prop := ∃ r, tp_w P i = some r ∧ ¬ ∃ q, tp_nx n P i q ∧ tp_l n P q r
noncomputable def tp_leave (n : Nat) (P : tp_P) : tp_P := fun j i => if i < n ∧ j < 4 then @ite _ (tp_dead n P i) (Classical.propDecidable _) (if j = 0 then -1 else 0) (P j i) else 0
def tp_lch (n : Nat) (P : tp_P) : Prop := ∃ i, i < n ∧ tp_dead n P i
noncomputable def tp_it (n : Nat) (P : tp_P) : Nat → tp_P
  | 0 => P
  | k + 1 => tp_leave n (tp_pass n (tp_it n P k))
def tp_ch (n : Nat) (P : tp_P) : Prop := tp_pch n P ∨ tp_lch n (tp_pass n P)
/-- carriers -/
def tp_g (P1 : tp_P) (i : Nat) (S : Nat → Nat → Prop) (x r : Nat) : Prop := if tp_w P1 i = some r then (P1 0 i = 1 ∧ S x (tp_n (P1 2 i))) else S x r
def tp_ks (P P1 : tp_P) (i : Nat) (S : Nat → Nat → Prop) (x r : Nat) : Prop :=
  if (P 0 i = 0 ∨ P 0 i = 2) ∧ x = tp_n (P 1 i) then P1 0 i ≠ -1 ∧ r = x
  else if P 0 i = 1 ∧ x = tp_n (P 1 i) then (P1 0 i ≠ -1 ∧ r = x) ∨ tp_g P1 i S (tp_n (P 2 i)) r
  else if P 0 i = 5 ∧ x = 6 + tp_n (P 1 i) then tp_g P1 i S (tp_n (P 2 i)) r
  else tp_g P1 i S x r
def tp_kS (n : Nat) (P P1 : tp_P) (S : Nat → Nat → Nat → Prop) : Prop := (∀ x r, S 0 x r → x < 6) ∧ ∀ i q, i < n → tp_nx n P i q → ∀ x r, x < 9 → r < 6 → S q x r → tp_ks P P1 i (S i) x r
def tp_k (n : Nat) (P P1 : tp_P) (q x r : Nat) : Prop := ∃ S, tp_kS n P P1 S ∧ S q x r
/-- constants -/
def tp_vs (P : tp_P) (i : Nat) (S : Nat → Int32 → Prop) (x : Nat) (c : Int32) : Prop :=
  if P 0 i = 0 ∧ x = tp_n (P 1 i) then c = P 2 i
  else if P 0 i = 2 ∧ x = tp_n (P 1 i) then False
  else if P 0 i = 1 ∧ x = tp_n (P 1 i) then S (tp_n (P 2 i)) c
  else if P 0 i = 5 ∧ x = 6 + tp_n (P 1 i) then S (tp_n (P 2 i)) c
  else S x c
def tp_vS (n : Nat) (P : tp_P) (S : Nat → Nat → Int32 → Prop) : Prop := (∀ x c, S 0 x c → x < 6 ∧ c = 0) ∧ ∀ i q, i < n → tp_nx n P i q → ∀ x c, x < 9 → S q x c → tp_vs P i (S i) x c
def tp_v (n : Nat) (P : tp_P) (q x : Nat) (c : Int32) : Prop := ∃ S, tp_vS n P S ∧ S q x c
/-- the last line before i that writes r, and one; 0 if none does -/
def tp_lw (P : tp_P) : Nat → Nat → Nat
  | 0, _ => 0
  | i + 1, r => if tp_w P i = some r then i + 1 else tp_lw P i r
theorem tp_lw_le (P : tp_P) : ∀ i r, tp_lw P i r ≤ i
  | 0, _ => Nat.le_refl 0
  | i + 1, r => by
    unfold tp_lw
    have := tp_lw_le P i r
    split <;> omega
theorem tp_lw_mono {P Q : tp_P} {n : Nat} (h : ∀ i, i < n → ∀ r, tp_w Q i = some r → tp_w P i = some r) : ∀ i, i ≤ n → ∀ r, tp_lw Q i r ≤ tp_lw P i r := by
  intro i
  induction i with
  | zero => intro _ r; exact Nat.le_refl 0
  | succ i ih =>
    intro hi r
    have h1 := ih (by omega) r
    have h2 := tp_lw_le P i r
    unfold tp_lw
    by_cases a : tp_w Q i = some r
    · rw [if_pos a, if_pos (h i (by omega) r a)]; exact Nat.le_refl _
    · rw [if_neg a]
      split <;> omega
theorem tp_c_lw {n : Nat} {P : tp_P} {S : Nat → Nat → Nat → Prop} (hS : tp_cs n P S) : ∀ i, i ≤ n → ∀ s u, S i s u → tp_lw P i u < tp_lw P i s := by
  intro i
  induction i with
  | zero => intro _ s u h; exact absurd h (hS.1 s u)
  | succ i ih =>
    intro hi s u h
    unfold tp_lw
    rcases hS.2 i (i + 1) hi (Or.inl rfl) s u h with a | a
    · have hw : tp_w P i = some s := by unfold tp_w; rw [if_pos (Or.inr (Or.inl a.1)), a.2.1]
      have hne : ¬ tp_w P i = some u := by rw [hw]; intro e; exact a.2.2.2 (Option.some.inj e)
      rw [if_pos hw, if_neg hne]
      have := tp_lw_le P i u
      omega
    · rw [if_neg a.2.1, if_neg a.2.2]
      exact ih (by omega) s u a.1
theorem tp_c_reg {n : Nat} {P : tp_P} {S : Nat → Nat → Nat → Prop} (hS : tp_cs n P S) (hP : ∀ i, i < n → tp_line P i) : ∀ i, i ≤ n → ∀ s u, S i s u → s < 6 ∧ u < 6 := by
  intro i
  induction i with
  | zero => intro _ s u h; exact absurd h (hS.1 s u)
  | succ i ih =>
    intro hi s u h
    rcases hS.2 i (i + 1) hi (Or.inl rfl) s u h with a | a
    · obtain ⟨h1, h2, h3, -⟩ := hP i (by omega)
      obtain ⟨x, hx, ex⟩ := h2 (by rw [a.1]; decide)
      obtain ⟨y, hy, ey⟩ := h3 (Or.inl a.1)
      rw [← a.2.1, ← a.2.2.1, ex, ey]
      unfold tp_n
      rw [nI_clamp (by omega), nI_clamp (by omega)]
      exact ⟨hx, hy⟩
    · exact ih (by omega) s u a.1
/-- how far a program is from its end -/
noncomputable def tp_m1 (P : tp_P) (i j : Nat) : Nat := @ite _ (tp_rd P i j) (Classical.propDecidable _) (tp_lw P i (tp_n (P j i))) 0
noncomputable def tp_m2 (P : tp_P) (i : Nat) : Nat := if P 0 i = -1 then 0 else 1 + tp_m1 P i 1 + tp_m1 P i 2 + tp_m1 P i 3
noncomputable def tp_m (P : tp_P) : Nat → Nat
  | 0 => 0
  | i + 1 => tp_m P i + tp_m2 P i
theorem tp_m_le {P Q : tp_P} : ∀ n, (∀ i, i < n → tp_m2 Q i ≤ tp_m2 P i) → tp_m Q n ≤ tp_m P n
  | 0, _ => Nat.le_refl 0
  | n + 1, h => by
    have a := tp_m_le n (fun i hi => h i (by omega))
    have b := h n (by omega)
    unfold tp_m
    omega
theorem tp_m_lt {P Q : tp_P} : ∀ n, (∀ i, i < n → tp_m2 Q i ≤ tp_m2 P i) → (∃ i, i < n ∧ tp_m2 Q i < tp_m2 P i) → tp_m Q n < tp_m P n
  | 0, _, h => by obtain ⟨i, hi, -⟩ := h; omega
  | n + 1, h, hx => by
    obtain ⟨i, hi, hl⟩ := hx
    have b := h n (by omega)
    unfold tp_m
    by_cases e : i = n
    · subst e
      have a := tp_m_le i (fun k hk => h k (by omega))
      omega
    · have a := tp_m_lt n (fun k hk => h k (by omega)) ⟨i, by omega, hl⟩
      omega
theorem tp_m_bd (P : tp_P) : ∀ n, n ≤ 16 → tp_m P n ≤ 49 * n
  | 0, _ => Nat.le_refl 0
  | n + 1, h => by
    have a := tp_m_bd P n (by omega)
    have b : ∀ j, tp_m1 P n j ≤ 16 := by
      intro j
      unfold tp_m1
      have := tp_lw_le P n (tp_n (P j n))
      split <;> omega
    have c : tp_m2 P n ≤ 49 := by
      have b1 := b 1; have b2 := b 2; have b3 := b 3
      unfold tp_m2
      split <;> omega
    unfold tp_m
    omega
/-! one round makes it smaller -/
theorem tp_rd0 {P : tp_P} {i : Nat} : ¬ tp_rd P i 0 := by
  rintro (⟨h, -⟩ | ⟨h, -⟩ | ⟨h, -⟩) <;> cases h
theorem tp_rd_congr {P Q : tp_P} {i : Nat} (h : Q 0 i = P 0 i) (j : Nat) : tp_rd Q i j ↔ tp_rd P i j := by unfold tp_rd; rw [h]
theorem tp_p1_0 {n : Nat} {P : tp_P} {i : Nat} : tp_p1 n P 0 i = P 0 i := by
  unfold tp_p1; rw [if_neg (fun h => tp_rd0 h.1)]
theorem tp_p1_no {n : Nat} {P : tp_P} {i j : Nat} (h : ¬ tp_rd P i j) : tp_p1 n P j i = P j i := by
  unfold tp_p1; rw [if_neg (fun q => h q.1)]
/-- a line is emptied by the first half -/
def tp_e1 (n : Nat) (P : tp_P) (i : Nat) : Prop := P 0 i = 1 ∧ tp_p1 n P 1 i = tp_p1 n P 2 i
theorem tp_pass_e {n : Nat} {P : tp_P} {i j : Nat} (hi : i < n) (hj : j < 4) (h : tp_e1 n P i) : tp_pass n P j i = if j = 0 then -1 else 0 := by
  unfold tp_e1 at h; unfold tp_pass; rw [if_pos ⟨hi, hj⟩, if_pos h]
theorem tp_pass_n {n : Nat} {P : tp_P} {i j : Nat} (hi : i < n) (hj : j < 4) (h : ¬ tp_e1 n P i) : tp_pass n P j i = tp_p1 n P j i := by
  unfold tp_e1 at h; unfold tp_pass; rw [if_pos ⟨hi, hj⟩, if_neg h]
theorem tp_pass_0 {n : Nat} {P : tp_P} {i : Nat} (hi : i < n) (h : ¬ tp_e1 n P i) : tp_pass n P 0 i = P 0 i := by rw [tp_pass_n hi (by omega) h, tp_p1_0]
theorem tp_w_none {P : tp_P} {i : Nat} (h : P 0 i = -1) : tp_w P i = none := by
  unfold tp_w; rw [h, if_neg]; decide
theorem tp_w_kind {P : tp_P} {i r : Nat} (h : tp_w P i = some r) : P 0 i = 0 ∨ P 0 i = 1 ∨ P 0 i = 2 := by
  unfold tp_w at h
  by_cases k : P 0 i = 0 ∨ P 0 i = 1 ∨ P 0 i = 2
  · exact k
  · rw [if_neg k] at h; cases h
theorem tp_rd1 {P : tp_P} {i : Nat} (k : P 0 i = 0 ∨ P 0 i = 1 ∨ P 0 i = 2) : ¬ tp_rd P i 1 := by
  rintro (⟨-, h⟩ | ⟨h, -⟩ | ⟨h, -⟩)
  · rcases k with k | k | k <;> rw [k] at h <;> revert h <;> decide
  · cases h
  · cases h
theorem tp_pass_w {n : Nat} {P : tp_P} {i : Nat} (hi : i < n) (r : Nat) (h : tp_w (tp_pass n P) i = some r) : tp_w P i = some r := by
  by_cases e : tp_e1 n P i
  · rw [tp_w_none (by rw [tp_pass_e hi (by omega) e]; rfl)] at h; cases h
  · have k := tp_w_kind h
    rw [tp_pass_0 hi e] at k
    unfold tp_w at h ⊢
    rw [tp_pass_0 hi e, if_pos k] at h
    rw [if_pos k, ← h, tp_pass_n hi (by omega) e, tp_p1_no (tp_rd1 k)]
theorem tp_m1_pass {n : Nat} {P : tp_P} {i j : Nat} (hP : ∀ i, i < n → tp_line P i) (hi : i < n) (hj : j < 4) (e : ¬ tp_e1 n P i) : tp_m1 (tp_pass n P) i j ≤ tp_m1 P i j ∧ (tp_q n P j i → tp_m1 (tp_pass n P) i j < tp_m1 P i j) := by
  have hm := tp_lw_mono (P := P) (Q := tp_pass n P) (n := n) (fun i hi r => tp_pass_w hi r) i (by omega)
  have hr := tp_rd_congr (P := P) (Q := tp_pass n P) (i := i) (tp_pass_0 hi e) j
  unfold tp_m1
  by_cases hd : tp_rd P i j
  · rw [if_pos hd, if_pos (hr.mpr hd), tp_pass_n hi hj e]
    by_cases hq : tp_q n P j i
    · obtain ⟨-, u, S, hS, hu⟩ := id hq
      have e2 : tp_p1 n P j i = nI u := by
        unfold tp_p1; rw [if_pos hq]; exact tp_org_some (by omega) ⟨S, hS, hu⟩
      have hlt := tp_c_lw hS i (by omega) _ _ hu
      have hle := hm (tp_n (tp_p1 n P j i))
      have e3 : tp_n (tp_p1 n P j i) = u := by
        rw [e2]
        exact nI_clamp (by have := (tp_c_reg hS hP i (by omega) _ _ hu).2; omega)
      rw [e3] at hle ⊢
      exact ⟨by omega, fun _ => by omega⟩
    · have e2 : tp_p1 n P j i = P j i := by unfold tp_p1; rw [if_neg hq]
      rw [e2]
      exact ⟨hm _, fun q => absurd q hq⟩
  · rw [if_neg hd, if_neg (fun q => hd (hr.mp q))]
    exact ⟨Nat.le_refl 0, fun q => absurd q.1 hd⟩
theorem tp_m2_pass {n : Nat} {P : tp_P} {i : Nat} (hP : ∀ i, i < n → tp_line P i) (hi : i < n) : tp_m2 (tp_pass n P) i ≤ tp_m2 P i ∧ ((∃ j, j < 4 ∧ tp_q n P j i) ∨ tp_e1 n P i → tp_m2 (tp_pass n P) i < tp_m2 P i) := by
  by_cases e : tp_e1 n P i
  · have a : tp_m2 (tp_pass n P) i = 0 := by unfold tp_m2; rw [tp_pass_e hi (by omega) e]; rfl
    have b : 0 < tp_m2 P i := by
      unfold tp_m2; rw [e.1, if_neg (by decide)]; omega
    exact ⟨by omega, fun _ => by omega⟩
  · have k := tp_pass_0 hi e
    by_cases h0 : P 0 i = -1
    · have a : tp_m2 (tp_pass n P) i = 0 := by unfold tp_m2; rw [k, if_pos h0]
      have b : tp_m2 P i = 0 := by unfold tp_m2; rw [if_pos h0]
      refine ⟨by omega, fun h => ?_⟩
      rcases h with ⟨j, hj, hq⟩ | h
      · exfalso
        rcases hq.1 with ⟨-, h⟩ | ⟨-, h⟩ | ⟨-, h⟩ <;> rw [h0] at h <;> revert h <;> decide
      · exact absurd h e
    · have m1 := tp_m1_pass hP hi (j := 1) (by omega) e
      have m2 := tp_m1_pass hP hi (j := 2) (by omega) e
      have m3 := tp_m1_pass hP hi (j := 3) (by omega) e
      have a : tp_m2 (tp_pass n P) i = 1 + tp_m1 (tp_pass n P) i 1 + tp_m1 (tp_pass n P) i 2 + tp_m1 (tp_pass n P) i 3 := by unfold tp_m2; rw [k, if_neg h0]
      have b : tp_m2 P i = 1 + tp_m1 P i 1 + tp_m1 P i 2 + tp_m1 P i 3 := by unfold tp_m2; rw [if_neg h0]
      refine ⟨by omega, fun h => ?_⟩
      rcases h with ⟨j, hj, hq⟩ | h
      · have : j = 0 ∨ j = 1 ∨ j = 2 ∨ j = 3 := by omega
        rcases this with rfl | rfl | rfl | rfl
        · exact absurd hq.1 tp_rd0
        · have := m1.2 hq; omega
        · have := m2.2 hq; omega
        · have := m3.2 hq; omega
      · exact absurd h e
theorem tp_leave_d {n : Nat} {P : tp_P} {i j : Nat} (hi : i < n) (hj : j < 4) (h : tp_dead n P i) : tp_leave n P j i = if j = 0 then -1 else 0 := by
  unfold tp_leave; rw [if_pos ⟨hi, hj⟩, if_pos h]
theorem tp_leave_n {n : Nat} {P : tp_P} {i j : Nat} (hi : i < n) (hj : j < 4) (h : ¬ tp_dead n P i) : tp_leave n P j i = P j i := by
  unfold tp_leave; rw [if_pos ⟨hi, hj⟩, if_neg h]
theorem tp_w_congr {P Q : tp_P} {i : Nat} (h0 : Q 0 i = P 0 i) (h1 : Q 1 i = P 1 i) : tp_w Q i = tp_w P i := by unfold tp_w; rw [h0, h1]
theorem tp_leave_w {n : Nat} {P : tp_P} {i : Nat} (hi : i < n) (r : Nat) (h : tp_w (tp_leave n P) i = some r) : tp_w P i = some r := by
  by_cases e : tp_dead n P i
  · rw [tp_w_none (by rw [tp_leave_d hi (by omega) e]; rfl)] at h; cases h
  · rw [tp_w_congr (P := P) (tp_leave_n hi (by omega) e) (tp_leave_n hi (by omega) e)] at h; exact h
theorem tp_m2_leave {n : Nat} {P : tp_P} {i : Nat} (hi : i < n) : tp_m2 (tp_leave n P) i ≤ tp_m2 P i ∧ (tp_dead n P i → tp_m2 (tp_leave n P) i < tp_m2 P i) := by
  by_cases e : tp_dead n P i
  · have a : tp_m2 (tp_leave n P) i = 0 := by unfold tp_m2; rw [tp_leave_d hi (by omega) e]; rfl
    have b : 0 < tp_m2 P i := by
      obtain ⟨r, hr, -⟩ := e
      unfold tp_m2
      rcases tp_w_kind hr with k | k | k <;> rw [k, if_neg (by decide)] <;> omega
    exact ⟨by omega, fun _ => by omega⟩
  · refine ⟨?_, fun h => absurd h e⟩
    have hm := tp_lw_mono (P := P) (Q := tp_leave n P) (n := n) (fun i hi r => tp_leave_w hi r) i (by omega)
    have k := tp_leave_n hi (j := 0) (by omega) e
    have m1 : ∀ j, j < 4 → tp_m1 (tp_leave n P) i j ≤ tp_m1 P i j := by
      intro j hj
      have hr := tp_rd_congr (P := P) (Q := tp_leave n P) (i := i) k j
      unfold tp_m1
      by_cases hd : tp_rd P i j
      · rw [if_pos hd, if_pos (hr.mpr hd), tp_leave_n hi hj e]; exact hm _
      · rw [if_neg hd, if_neg (fun q => hd (hr.mp q))]; exact Nat.le_refl 0
    have a1 := m1 1 (by omega); have a2 := m1 2 (by omega); have a3 := m1 3 (by omega)
    unfold tp_m2
    rw [k]
    by_cases h0 : P 0 i = -1
    · rw [if_pos h0, if_pos h0]; exact Nat.le_refl 0
    · rw [if_neg h0, if_neg h0]; omega
/-- every round that changes anything makes it smaller -/
theorem tp_rnd_lt {n : Nat} {P : tp_P} (hP : ∀ i, i < n → tp_line P i) (h : tp_ch n P) : tp_m (tp_leave n (tp_pass n P)) n < tp_m P n := by
  have a := tp_m_le (P := P) (Q := tp_pass n P) n (fun i hi => (tp_m2_pass hP hi).1)
  have b := tp_m_le (P := tp_pass n P) (Q := tp_leave n (tp_pass n P)) n (fun i hi => (tp_m2_leave hi).1)
  rcases h with ⟨i, hi, h⟩ | ⟨i, hi, h⟩
  · have := tp_m_lt (P := P) (Q := tp_pass n P) n (fun i hi => (tp_m2_pass hP hi).1) ⟨i, hi, (tp_m2_pass hP hi).2 h⟩
    omega
  · have := tp_m_lt (P := tp_pass n P) (Q := tp_leave n (tp_pass n P)) n (fun i hi => (tp_m2_leave hi).1) ⟨i, hi, (tp_m2_leave hi).2 h⟩
    omega
/-! what stays in a round: a program's lines are lines; where jumps lead -/
theorem tp_p1_reg {n : Nat} {P : tp_P} {i j : Nat} (hP : ∀ i, i < n → tp_line P i) (hi : i < n) (hr : ∃ a, a < 6 ∧ P j i = nI a) : ∃ a, a < 6 ∧ tp_p1 n P j i = nI a := by
  by_cases hq : tp_q n P j i
  · obtain ⟨-, u, S, hS, hu⟩ := id hq
    refine ⟨u, (tp_c_reg hS hP i (by omega) _ _ hu).2, ?_⟩
    unfold tp_p1; rw [if_pos hq]; exact tp_org_some (by omega) ⟨S, hS, hu⟩
  · unfold tp_p1; rw [if_neg hq]; exact hr
theorem tp_line_empty {P : tp_P} {i : Nat} (h : P 0 i = -1) : tp_line P i := by
  refine ⟨Or.inl h, fun q => absurd h q, fun q => ?_, fun q => ?_, fun q => ?_, fun q => ?_⟩
  · rw [h] at q; exact absurd q (by decide)
  · rw [h] at q; exact absurd q (by decide)
  · rw [h] at q; exact absurd q (by decide)
  · rw [h] at q; exact absurd q (by decide)
theorem tp_line_pass {n : Nat} {P : tp_P} (hP : ∀ i, i < n → tp_line P i) {i : Nat} (hi : i < n) : tp_line (tp_pass n P) i := by
  by_cases e : tp_e1 n P i
  · exact tp_line_empty (by rw [tp_pass_e hi (by omega) e]; rfl)
  · obtain ⟨h0, h1, h2, h3, h4, h5⟩ := hP i hi
    have k := tp_pass_0 hi e
    unfold tp_line
    rw [k, tp_pass_n hi (j := 1) (by omega) e, tp_pass_n hi (j := 2) (by omega) e, tp_pass_n hi (j := 3) (by omega) e]
    refine ⟨h0, fun q => tp_p1_reg hP hi (h1 q), fun q => tp_p1_reg hP hi (h2 q), fun q => ?_, fun q => tp_p1_reg hP hi (h4 q), fun q => ?_⟩
    · rw [tp_p1_no]
      · exact h3 q
      · rintro (⟨h, -⟩ | ⟨-, h⟩ | ⟨h, -⟩)
        · cases h
        · rw [q] at h; revert h; decide
        · cases h
    · rw [tp_p1_no]
      · exact h5 q
      · rintro (⟨-, h⟩ | ⟨h, -⟩ | ⟨h, -⟩)
        · rw [q] at h; revert h; decide
        · cases h
        · cases h
theorem tp_line_leave {n : Nat} {P : tp_P} (hP : ∀ i, i < n → tp_line P i) {i : Nat} (hi : i < n) : tp_line (tp_leave n P) i := by
  by_cases e : tp_dead n P i
  · exact tp_line_empty (by rw [tp_leave_d hi (by omega) e]; rfl)
  · have h := hP i hi
    unfold tp_line at h ⊢
    rw [tp_leave_n hi (j := 0) (by omega) e, tp_leave_n hi (j := 1) (by omega) e, tp_leave_n hi (j := 2) (by omega) e, tp_leave_n hi (j := 3) (by omega) e]
    exact h
theorem tp_tg_pass {n : Nat} {P : tp_P} {i : Nat} (hi : i < n) : tp_tg n (tp_pass n P) i = tp_tg n P i := by
  unfold tp_tg
  by_cases e : tp_e1 n P i
  · rw [tp_pass_e hi (by omega) e, if_neg (by decide), e.1, if_neg (by decide)]
  · rw [tp_pass_0 hi e]
    by_cases h4 : P 0 i = 4
    · rw [if_pos h4, if_pos h4, tp_pass_n hi (by omega) e, tp_p1_no]
      rintro (⟨h, -⟩ | ⟨-, h⟩ | ⟨h, -⟩)
      · cases h
      · rw [h4] at h; revert h; decide
      · cases h
    · rw [if_neg h4, if_neg h4]
theorem tp_tg_leave {n : Nat} {P : tp_P} {i : Nat} (hi : i < n) : tp_tg n (tp_leave n P) i = tp_tg n P i := by
  unfold tp_tg
  by_cases e : tp_dead n P i
  · have : ¬ P 0 i = 4 := by
      obtain ⟨r, hr, -⟩ := e
      rcases tp_w_kind hr with k | k | k <;> rw [k] <;> decide
    rw [tp_leave_d hi (by omega) e, if_neg (by decide), if_neg this]
  · rw [tp_leave_n hi (by omega) e, tp_leave_n hi (by omega) e]
theorem tp_it_line {n : Nat} {P : tp_P} (hP : ∀ i, i < n → tp_line P i) : ∀ k i, i < n → tp_line (tp_it n P k) i
  | 0, i, hi => hP i hi
  | k + 1, i, hi => tp_line_leave (fun _ h => tp_line_pass (tp_it_line hP k) h) hi
theorem tp_it_tg {n : Nat} {P : tp_P} {i : Nat} (hi : i < n) : ∀ k, tp_tg n (tp_it n P k) i = tp_tg n P i
  | 0 => rfl
  | k + 1 => (tp_tg_leave hi).trans ((tp_tg_pass hi).trans (tp_it_tg hi k))
theorem tp_it_m {n : Nat} {P : tp_P} (hP : ∀ i, i < n → tp_line P i) : ∀ k, (∀ j, j < k → tp_ch n (tp_it n P j)) → tp_m (tp_it n P k) n + k ≤ tp_m P n
  | 0, _ => Nat.le_refl _
  | k + 1, h => by
    have a := tp_it_m hP k (fun j hj => h j (by omega))
    have b := tp_rnd_lt (tp_it_line hP k) (h k (by omega))
    show tp_m (tp_leave n (tp_pass n (tp_it n P k))) n + (k + 1) ≤ _
    omega
theorem tp_stop {n : Nat} {P : tp_P} (hn : n ≤ 16) (hP : ∀ i, i < n → tp_line P i) : ∃ k, k ≤ 784 ∧ ¬ tp_ch n (tp_it n P k) ∧ ∀ j, j < k → tp_ch n (tp_it n P j) := by
  have hb := tp_m_bd P n hn
  have hex : ∃ k, ¬ tp_ch n (tp_it n P k) := Classical.byContradiction fun hno => by
    have hall : ∀ k, tp_ch n (tp_it n P k) := fun k => Classical.byContradiction fun q => hno ⟨k, q⟩
    have := tp_it_m hP (tp_m P n + 1) (fun j _ => hall j)
    omega
  obtain ⟨k, h1, h2⟩ := pk_least (fun k => ¬ tp_ch n (tp_it n P k)) hex
  have h3 : ∀ j, j < k → tp_ch n (tp_it n P j) := fun j hj => Classical.byContradiction fun q => h2 j hj q
  have := tp_it_m hP k h3
  exact ⟨k, by omega, h1, h3⟩
def tp_nrm (n : Nat) (P : tp_P) : Prop := ∀ j i, ¬ (i < n ∧ j < 4) → P j i = 0
theorem tp_same {n : Nat} {P : tp_P} (hN : tp_nrm n P) (h : ¬ tp_ch n P) : tp_leave n (tp_pass n P) = P := by
  have h1 : tp_pass n P = P := by
    funext j i
    by_cases hi : i < n ∧ j < 4
    · have e : ¬ tp_e1 n P i := fun e => h (Or.inl ⟨i, hi.1, Or.inr e⟩)
      rw [tp_pass_n hi.1 hi.2 e]
      unfold tp_p1
      rw [if_neg (fun q => h (Or.inl ⟨i, hi.1, Or.inl ⟨j, hi.2, q⟩⟩))]
    · unfold tp_pass; rw [if_neg hi]; exact (hN j i hi).symm
  have h2 : tp_leave n P = P := by
    funext j i
    by_cases hi : i < n ∧ j < 4
    · exact tp_leave_n hi.1 hi.2 (fun e => h (Or.inr ⟨i, hi.1, by rw [h1]; exact e⟩))
    · unfold tp_leave; rw [if_neg hi]; exact (hN j i hi).symm
  rw [h1, h2]
theorem tp_it_nrm {n : Nat} {P : tp_P} (hN : tp_nrm n P) : ∀ k, tp_nrm n (tp_it n P k)
  | 0 => hN
  | k + 1 => fun j i h => by
    show tp_leave n _ j i = 0
    unfold tp_leave; rw [if_neg h]
/-- constants are single -/
theorem tp_v_one {n : Nat} {P : tp_P} (hP : ∀ i, i < n → tp_line P i) : ∀ q, q ≤ n → ∀ x, x < 9 → ∀ c d, tp_v n P q x c → tp_v n P q x d → c = d := by
  intro q
  induction q with
  | zero =>
    intro _ x hx c d ⟨S, hS, h⟩ ⟨S', hS', h'⟩
    rw [(hS.1 x c h).2, (hS'.1 x d h').2]
  | succ q ih =>
    intro hq x hx c d ⟨S, hS, h⟩ ⟨S', hS', h'⟩
    have a := hS.2 q (q + 1) hq (Or.inl rfl) x c hx h
    have b := hS'.2 q (q + 1) hq (Or.inl rfl) x d hx h'
    obtain ⟨h0, h1, h2, h3, h4, h5⟩ := hP q (by omega)
    have two : P 0 q = 1 ∨ P 0 q = 2 ∨ P 0 q = 5 → tp_n (P 2 q) < 9 := by
      intro k
      obtain ⟨y, hy, ey⟩ := h2 k
      rw [ey]; unfold tp_n; rw [nI_clamp (by omega)]; omega
    unfold tp_vs at a b
    by_cases k1 : P 0 q = 0 ∧ x = tp_n (P 1 q)
    · rw [if_pos k1] at a b; rw [a, b]
    · rw [if_neg k1] at a b
      by_cases k2 : P 0 q = 2 ∧ x = tp_n (P 1 q)
      · rw [if_pos k2] at a; exact a.elim
      · rw [if_neg k2] at a b
        by_cases k3 : P 0 q = 1 ∧ x = tp_n (P 1 q)
        · rw [if_pos k3] at a b
          exact ih (by omega) _ (two (Or.inl k3.1)) c d ⟨S, hS, a⟩ ⟨S', hS', b⟩
        · rw [if_neg k3] at a b
          by_cases k4 : P 0 q = 5 ∧ x = 6 + tp_n (P 1 q)
          · rw [if_pos k4] at a b
            exact ih (by omega) _ (two (Or.inr (Or.inr k4.1))) c d ⟨S, hS, a⟩ ⟨S', hS', b⟩
          · rw [if_neg k4] at a b
            exact ih (by omega) x hx c d ⟨S, hS, a⟩ ⟨S', hS', b⟩
