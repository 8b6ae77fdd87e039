/-! settling, apart from what is settled -/
theorem or_z {x y : Int32} : x ||| y = 0 ↔ x = 0 ∧ y = 0 := by
  constructor
  · intro h
    constructor
    · apply bq_ext
      intro i hi
      have := congrArg (fun z => bq z i) h
      simp only [bq_or, bq_0, Bool.or_eq_false_iff] at this
      rw [this.1, bq_0]
    · apply bq_ext
      intro i hi
      have := congrArg (fun z => bq z i) h
      simp only [bq_or, bq_0, Bool.or_eq_false_iff] at this
      rw [this.2, bq_0]
  · rintro ⟨rfl, rfl⟩; rfl
section SF
variable {fol nar : Nat → tc_S → tc_S} {nch : Nat → tc_S → Int32} {tg : Nat → tc_S → Nat} {n : Nat} {β : Type} {I : tc_S → Prop} {H : Nat → tc_S → Prop} {tb : tc_S → β} {E : Nat → β → tc_S → Prop} {N : Nat → tc_S → Prop} {M : tc_S → Nat} {nx : Nat → Nat → Prop}
theorem sf_2_s (i : Nat) (x : tc_S × Int32) : sf_2 fol nar nch tg (i + 1) x = (nar (tg i (nar (i + 1) (fol i (sf_2 fol nar nch tg i x).1))) (nar (i + 1) (fol i (sf_2 fol nar nch tg i x).1)), ((sf_2 fol nar nch tg i x).2 ||| nch (i + 1) (fol i (sf_2 fol nar nch tg i x).1)) ||| nch (tg i (nar (i + 1) (fol i (sf_2 fol nar nch tg i x).1))) (nar (i + 1) (fol i (sf_2 fol nar nch tg i x).1))) := rfl
/-- one walk over the lines -/
theorem sf_pass (hM : ∀ v w, tb v = tb w → M v = M w) (hfol : ∀ i v, i < n → I v → I (fol i v) ∧ H i (fol i v) ∧ tb (fol i v) = tb v ∧ E i (tb v) (fol i v)) (hnar : ∀ i q v, i < n → nx i q → I v → H i v → I (nar q v) ∧ H i (nar q v) ∧ M (nar q v) ≤ M v ∧ (nch q v = 0 → nar q v = v ∧ N q v) ∧ (¬ nch q v = 0 → M (nar q v) < M v))
    (htg : ∀ i v, i < n → I v → nx i (tg i v)) (hnx : ∀ i v, i < n → I v → ∀ q, nx i q → q = i + 1 ∨ q = tg i v) (hn1 : ∀ i, i < n → nx i (i + 1)) (v0 : tc_S) (h0 : I v0) : ∀ i, i ≤ n → I (sf_2 fol nar nch tg i (v0, 0)).1 ∧ M (sf_2 fol nar nch tg i (v0, 0)).1 ≤ M v0 ∧ ((sf_2 fol nar nch tg i (v0, 0)).2 = 0 → tb (sf_2 fol nar nch tg i (v0, 0)).1 = tb v0 ∧ ∀ i', i' < i → ∀ q, nx i' q → ∃ w, tb w = tb v0 ∧ E i' (tb v0) w ∧ N q w) ∧ (¬ (sf_2 fol nar nch tg i (v0, 0)).2 = 0 → M (sf_2 fol nar nch tg i (v0, 0)).1 < M v0)
  | 0, _ => ⟨h0, Nat.le_refl _, fun _ => ⟨rfl, fun i' hi' => absurd hi' (by omega)⟩, fun h => absurd rfl h⟩
  | i + 1, hi => by
    obtain ⟨a1, a2, a3, a4⟩ := sf_pass hM hfol hnar htg hnx hn1 v0 h0 i (by omega)
    rw [sf_2_s]
    generalize sf_2 fol nar nch tg i (v0, 0) = x at a1 a2 a3 a4 ⊢
    obtain ⟨b1, b2, b3, b4⟩ := hfol i x.1 (by omega) a1
    have mf := hM _ _ b3
    obtain ⟨c1, c2, c3, c4, c5⟩ := hnar i (i + 1) (fol i x.1) (by omega) (hn1 i (by omega)) b1 b2
    obtain ⟨d1, d2, d3, d4, d5⟩ := hnar i (tg i (nar (i + 1) (fol i x.1))) (nar (i + 1) (fol i x.1)) (by omega) (htg i _ (by omega) c1) c1 c2
    refine ⟨d1, by show M (nar (tg i (nar (i + 1) (fol i x.1))) (nar (i + 1) (fol i x.1))) ≤ M v0; omega, fun hz => ?_, fun hz => ?_⟩
    · rw [or_z, or_z] at hz
      obtain ⟨⟨z1, z2⟩, z3⟩ := hz
      obtain ⟨e1, e2⟩ := a3 z1
      obtain ⟨f1, f2⟩ := c4 z2
      obtain ⟨g1, g2⟩ := d4 z3
      rw [g1, f1]
      refine ⟨b3.trans e1, fun i' hi' q hq => ?_⟩
      by_cases e : i' = i
      · subst e
        rcases hnx i' (nar (i' + 1) (fol i' x.1)) (by omega) c1 q hq with h | h
        · exact ⟨fol i' x.1, b3.trans e1, by rw [← e1]; exact b4, by rw [h]; exact f2⟩
        · refine ⟨fol i' x.1, b3.trans e1, by rw [← e1]; exact b4, ?_⟩
          rw [h]
          rw [f1] at g2 ⊢
          exact g2
      · exact e2 i' (by omega) q hq
    · show M (nar (tg i (nar (i + 1) (fol i x.1))) (nar (i + 1) (fol i x.1))) < M v0
      by_cases z1 : x.2 = 0
      · by_cases z2 : nch (i + 1) (fol i x.1) = 0
        · have z3 : ¬ nch (tg i (nar (i + 1) (fol i x.1))) (nar (i + 1) (fol i x.1)) = 0 := fun z => hz (by show _ ||| _ ||| _ = _; rw [or_z, or_z]; exact ⟨⟨z1, z2⟩, z⟩)
          have := d5 z3
          omega
        · have := c5 z2
          omega
      · have := a4 z1
        omega
theorem sf_end {C : tc_S → Prop} (hp : ∀ v, I v → I (sf_2 fol nar nch tg n (v, 0)).1 ∧ ((sf_2 fol nar nch tg n (v, 0)).2 = 0 → C (sf_2 fol nar nch tg n (v, 0)).1) ∧ (¬ (sf_2 fol nar nch tg n (v, 0)).2 = 0 → M (sf_2 fol nar nch tg n (v, 0)).1 < M v)) : ∀ f v, I v → M v < f → I (sf_3 fol nar nch tg n f v) ∧ C (sf_3 fol nar nch tg n f v)
  | 0, v, _, h => absurd h (by omega)
  | f + 1, v, hI, h => by
    obtain ⟨h1, h2, h3⟩ := hp v hI
    unfold sf_3
    by_cases z : (sf_2 fol nar nch tg n (v, 0)).2 = 0
    · rw [if_pos z]; exact ⟨h1, h2 z⟩
    · rw [if_neg z]
      exact sf_end hp f _ h1 (by have := h3 z; omega)
end SF
/-! copies -/
theorem wI_eq {P : tp_P} {i r : Nat} (hl : tp_line P i) (hr : r < 6) : nI r = tp_wI P i ↔ tp_w P i = some r := by
  unfold tp_wI tp_w
  by_cases k : P 0 i = 0 ∨ P 0 i = 1 ∨ P 0 i = 2
  · rw [if_pos k, if_pos k]
    obtain ⟨a, ha, ea⟩ := hl.2.1 (by rcases k with k | k | k <;> rw [k] <;> decide)
    rw [ea, show tp_n (nI a) = a from nI_clamp (by omega), nI_eq (by omega) (by omega), Option.some.injEq]
    exact ⟨fun h => h.symm, fun h => h.symm⟩
  · rw [if_neg k, if_neg k]
    exact ⟨fun h => absurd h (nI_m1' (by omega)), fun h => by cases h⟩
theorem fb_S {n : Nat} {P : tp_P} {i q : Nat} {o : Nat → Int32} {S : Nat → Nat → Nat → Prop} (hS : tp_cs n P S) (hP : ∀ i, i < n → tp_line P i) (hi : i < n) (hq : tp_nx n P i q) (ho : ∀ r b, r < 6 → S i r b → o r = nI b) {r b : Nat} (hr : r < 6) (h : S q r b) : tp_fb P i o r = nI b := by
  have hl := hP i hi
  rcases hS.2 i q hi hq r b h with ⟨k, e1, e2, ne⟩ | ⟨h1, h2, h3⟩
  · obtain ⟨x, hx, ex⟩ := hl.2.1 (by rw [k]; decide)
    obtain ⟨y, hy, ey⟩ := hl.2.2.1 (Or.inl k)
    rw [ex, show tp_n (nI x) = x from nI_clamp (by omega)] at e1
    rw [ey, show tp_n (nI y) = y from nI_clamp (by omega)] at e2
    rw [tp_fb_y ⟨k, by rw [ex, ey, e1, e2, nI_eq (by omega) (by omega)]; exact fun z => ne z.symm, by rw [ex, e1]⟩, ey, e2]
  · have w1 : ¬ nI r = tp_wI P i := fun z => h2 ((wI_eq hl hr).mp z)
    have hb := (tp_c_reg hS hP i (by omega) r b h1).2
    have w2 : ¬ nI b = tp_wI P i := fun z => h3 ((wI_eq hl hb).mp z)
    rw [tp_fb_n (fun z => w1 ?_)]
    · unfold tp_f0
      rw [ho r b hr h1, if_neg (fun z => z.elim w1 w2)]
    · rw [z.2.2]; unfold tp_wI; rw [if_pos (Or.inr (Or.inl z.1))]
theorem fb_D {P : tp_P} {i : Nat} {o : Nat → Int32} {r b : Nat} (hl : tp_line P i) (hr : r < 6) (hb : b < 6) (h : tp_fb P i o r = nI b) : tp_cb P i r b ∨ (o r = nI b ∧ tp_w P i ≠ some r ∧ tp_w P i ≠ some b) := by
  by_cases k : P 0 i = 1 ∧ ¬ P 2 i = P 1 i ∧ nI r = P 1 i
  · rw [tp_fb_y k] at h
    refine Or.inl ⟨k.1, by rw [← k.2.2]; exact nI_clamp (by omega), by rw [h]; exact nI_clamp (by omega), fun e => k.2.1 ?_⟩
    rw [h, ← k.2.2, e]
  · rw [tp_fb_n k] at h
    unfold tp_f0 at h
    by_cases z : nI r = tp_wI P i ∨ o r = tp_wI P i
    · rw [if_pos z] at h
      exact absurd h.symm (nI_m1' (by omega))
    · rw [if_neg z] at h
      refine Or.inr ⟨h, fun w => z (Or.inl ((wI_eq hl hr).mpr w)), fun w => z (Or.inr ?_)⟩
      rw [h]; exact (wI_eq hl hb).mpr w
/-- how many copies are still held -/
def ct_z (v : tc_S) (q : Nat) : Nat → Nat
  | 0 => 0
  | r + 1 => ct_z v q r + (if v (16 + r) q = -1 then 0 else 1)
def ct_Z (v : tc_S) : Nat → Nat
  | 0 => 0
  | q + 1 => ct_Z v q + ct_z v q 6
theorem ct_z_le {v w : tc_S} {q : Nat} (h : ∀ r, r < 6 → w (16 + r) q = v (16 + r) q ∨ w (16 + r) q = -1) : ∀ r, r ≤ 6 → ct_z w q r ≤ ct_z v q r
  | 0, _ => Nat.le_refl 0
  | r + 1, hr => by
    have := ct_z_le h r (by omega)
    unfold ct_z
    rcases h r (by omega) with e | e
    · rw [e]; omega
    · rw [e, if_pos rfl]; omega
theorem ct_z_lt {v w : tc_S} {q : Nat} (h : ∀ r, r < 6 → w (16 + r) q = v (16 + r) q ∨ w (16 + r) q = -1) {r0 : Nat} (h1 : w (16 + r0) q = -1) (h2 : ¬ v (16 + r0) q = -1) : ∀ r, r ≤ 6 → r0 < r → ct_z w q r < ct_z v q r
  | 0, _, z => by omega
  | r + 1, hr, z => by
    have a := ct_z_le h r (by omega)
    unfold ct_z
    by_cases e : r0 = r
    · subst e
      rw [if_pos h1, if_neg h2]; omega
    · have := ct_z_lt h h1 h2 r (by omega) (by omega)
      rcases h r (by omega) with e | e
      · rw [e]; omega
      · rw [e, if_pos rfl]; omega
theorem ct_z_bd (v : tc_S) (q : Nat) : ∀ r, ct_z v q r ≤ r
  | 0 => Nat.le_refl 0
  | r + 1 => by
    have := ct_z_bd v q r
    unfold ct_z
    split <;> omega
theorem ct_Z_bd (v : tc_S) : ∀ q, ct_Z v q ≤ 6 * q
  | 0 => Nat.le_refl 0
  | q + 1 => by
    have := ct_Z_bd v q
    have := ct_z_bd v q 6
    unfold ct_Z
    omega
theorem ct_Z_le {v w : tc_S} (h : ∀ q r, r < 6 → w (16 + r) q = v (16 + r) q ∨ w (16 + r) q = -1) : ∀ q, ct_Z w q ≤ ct_Z v q
  | 0 => Nat.le_refl 0
  | q + 1 => by
    have := ct_Z_le h q
    have := ct_z_le (h q) 6 (by omega)
    unfold ct_Z
    omega
theorem ct_Z_lt {v w : tc_S} (h : ∀ q r, r < 6 → w (16 + r) q = v (16 + r) q ∨ w (16 + r) q = -1) {q0 r0 : Nat} (hr : r0 < 6) (h1 : w (16 + r0) q0 = -1) (h2 : ¬ v (16 + r0) q0 = -1) : ∀ q, q0 < q → ct_Z w q < ct_Z v q
  | 0, z => by omega
  | q + 1, z => by
    have a := ct_Z_le h q
    have b := ct_z_le (h q) 6 (by omega)
    unfold ct_Z
    by_cases e : q0 = q
    · subst e
      have := ct_z_lt (h q0) h1 h2 6 (by omega) hr
      omega
    · have := ct_Z_lt h hr h1 h2 q (by omega)
      omega
