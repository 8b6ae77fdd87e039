theorem bq_t {b : Bool} (h : ¬ b = false) : b = true := by
  cases b
  · exact absurd rfl h
  · rfl
def og_v (P : tp_P) (b : Nat) (c : Int32) : Prop := (b = 16 ∧ c = 0) ∨ (b < 16 ∧ P 0 b = 0 ∧ c = P 2 b)
def fc_F (P P1 : tp_P) (l : Nat → Int32) (i x : Nat) : Int32 := cl_f P P1 i (fun y => cl_t P1 i (l (9 * i + y))) x
def fc_G (P : tp_P) (o : Nat → Int32) (i x : Nat) : Int32 := cl_g P i (fun y => o (9 * i + y)) x
def fc_I (n : Nat) (P P1 : tp_P) (l o : Nat → Int32) : Prop :=
  ((∀ x, 6 ≤ x → x < 9 → ∀ r, r < 6 → bq (l x) r = true) ∧ (∀ x, x < 6 → bq (o x) 16 = true) ∧ ∀ x, 6 ≤ x → x < 9 → bq (o x) 17 = true) ∧
  (∀ S, tp_kS n P P1 S → ∀ q, q ≤ n → ∀ x, x < 9 → ∀ r, r < 6 → S q x r → bq (l (9 * q + x)) r = false) ∧
  (∀ S, tp_vS n P S → ∀ q, q ≤ n → ∀ x, x < 9 → ∀ c, S q x c → ∀ b, b < 32 → bq (o (9 * q + x)) b = true → og_v P b c) ∧
  (∀ q, q ≤ n → ∀ x, x < 9 → bq (o (9 * q + x)) 17 = true → 6 ≤ x ∧ ∀ r, r < 6 → bq (l (9 * q + x)) r = true) ∧
  ∀ q, q ≤ n → ∀ x, x < 9 → ∀ b, b < 32 → bq (o (9 * q + x)) b = true → b < n ∨ b = 16 ∨ b = 17
/-- what is passed to a point q -/
def fc_P (n : Nat) (P P1 : tp_P) (f g : Nat → Int32) (q : Nat) : Prop :=
  (∀ S, tp_kS n P P1 S → ∀ x, x < 9 → ∀ r, r < 6 → S q x r → bq (f x) r = false) ∧ (∀ S, tp_vS n P S → ∀ x, x < 9 → ∀ c, S q x c → ∀ b, b < 32 → bq (g x) b = true → og_v P b c) ∧
  (∀ x, x < 9 → bq (g x) 17 = true → 6 ≤ x ∧ ∀ r, r < 6 → bq (f x) r = true) ∧ ∀ x, x < 9 → ∀ b, b < 32 → bq (g x) b = true → b < n ∨ b = 16 ∨ b = 17
theorem tp_g_mono {P1 : tp_P} {i : Nat} {S S' : Nat → Nat → Prop} (hl : tp_line P1 i) {y r : Nat} (hr : r < 6) (h : ∀ s, s < 6 → S y s → S' y s) (hg : tp_g P1 i S y r) : tp_g P1 i S' y r := by
  unfold tp_g at hg ⊢
  by_cases e : tp_w P1 i = some r
  · rw [if_pos e] at hg ⊢
    obtain ⟨b, hb, eb⟩ := hl.2.2.1 (Or.inl hg.1)
    refine ⟨hg.1, h _ ?_ hg.2⟩
    rw [eb]; show (nI b).toNatClampNeg < 6; rw [nI_clamp (by omega)]; exact hb
  · rw [if_neg e] at hg ⊢
    exact h r hr hg
theorem tp_two {P : tp_P} {i : Nat} (hl : tp_line P i) (k : P 0 i = 1 ∨ P 0 i = 2 ∨ P 0 i = 5) : tp_n (P 2 i) < 6 := by
  obtain ⟨b, hb, eb⟩ := hl.2.2.1 k
  rw [eb]; show (nI b).toNatClampNeg < 6; rw [nI_clamp (by omega)]; exact hb
theorem tp_one {P : tp_P} {i : Nat} (hl : tp_line P i) (k : ¬ P 0 i = -1) : tp_n (P 1 i) < 6 := by
  obtain ⟨b, hb, eb⟩ := hl.2.1 k
  rw [eb]; show (nI b).toNatClampNeg < 6; rw [nI_clamp (by omega)]; exact hb
theorem tp_ks_mono {P P1 : tp_P} {i : Nat} {S S' : Nat → Nat → Prop} (hl : tp_line P i) (hl1 : tp_line P1 i) {x r : Nat} (hx : x < 9) (hr : r < 6) (h : ∀ y, y < 9 → ∀ s, s < 6 → S y s → S' y s) (hk : tp_ks P P1 i S x r) : tp_ks P P1 i S' x r := by
  unfold tp_ks at hk ⊢
  by_cases h1 : (P 0 i = 0 ∨ P 0 i = 2) ∧ x = tp_n (P 1 i)
  · rw [if_pos h1] at hk ⊢; exact hk
  · rw [if_neg h1] at hk ⊢
    by_cases h2 : P 0 i = 1 ∧ x = tp_n (P 1 i)
    · rw [if_pos h2] at hk ⊢
      have := tp_two hl (Or.inl h2.1)
      exact hk.imp id (tp_g_mono hl1 hr (h _ (by omega)))
    · rw [if_neg h2] at hk ⊢
      by_cases h3 : P 0 i = 5 ∧ x = 6 + tp_n (P 1 i)
      · rw [if_pos h3] at hk ⊢
        have := tp_two hl (Or.inr (Or.inr h3.1))
        exact tp_g_mono hl1 hr (h _ (by omega)) hk
      · rw [if_neg h3] at hk ⊢
        exact tp_g_mono hl1 hr (h _ hx) hk
theorem fc_pass {n : Nat} {P P1 : tp_P} {l o : Nat → Int32} {i q : Nat} (hI : fc_I n P P1 l o) (hn : n ≤ 16) (hi : i < n) (hl : tp_line P i) (hl1 : tp_line P1 i) (hne : ¬ P 0 i = -1) (hq : tp_nx n P i q) : fc_P n P P1 (fc_F P P1 l i) (fc_G P o i) q := by
  obtain ⟨-, hb, hc, hd, he⟩ := hI
  have w1 := tp_one hl hne
  refine ⟨fun S hS x hx r hr h => ?_, fun S hS x hx c h b hb32 hg => ?_, fun x hx hg => ?_, fun x hx b h32 h18 => ?_⟩
  · refine (cl_f_bits hl hl1 hne (fun y => l (9 * i + y)) hx hr).mpr ?_
    exact tp_ks_mono hl hl1 hx hr (fun y hy s hs hSy => hb S hS i (by omega) y hy s hs hSy) (hS.2 i q hi hq x r hx hr h)
  · have hv := hS.2 i q hi hq x c hx h
    unfold fc_G cl_g at hg
    unfold tp_vs at hv
    by_cases k1 : P 0 i = 0 ∧ x = tp_n (P 1 i)
    · rw [if_pos k1] at hv
      rw [if_pos ⟨Or.inl k1.1, k1.2⟩, bq_sh i (by omega) b hb32] at hg
      have hbi : b = i := of_decide_eq_true hg
      rw [hbi]
      exact Or.inr ⟨by omega, k1.1, hv⟩
    · rw [if_neg k1] at hv
      by_cases k2 : P 0 i = 2 ∧ x = tp_n (P 1 i)
      · rw [if_pos k2] at hv; exact hv.elim
      · rw [if_neg k2] at hv
        rw [if_neg (fun z => z.1.elim (fun z' => k1 ⟨z', z.2⟩) (fun z' => k2 ⟨z', z.2⟩))] at hg
        by_cases k3 : P 0 i = 1 ∧ x = tp_n (P 1 i)
        · rw [if_pos k3] at hv hg
          have := tp_two hl (Or.inl k3.1)
          exact hc S hS i (by omega) _ (by omega) c hv b hb32 hg
        · rw [if_neg k3] at hv hg
          by_cases k4 : P 0 i = 5 ∧ x = 6 + tp_n (P 1 i)
          · rw [if_pos k4] at hv hg
            have := tp_two hl (Or.inr (Or.inr k4.1))
            exact hc S hS i (by omega) _ (by omega) c hv b hb32 hg
          · rw [if_neg k4] at hv hg
            exact hc S hS i (by omega) x hx c hv b hb32 hg
  · unfold fc_G cl_g at hg
    by_cases k1 : (P 0 i = 0 ∨ P 0 i = 2) ∧ x = tp_n (P 1 i)
    · rw [if_pos k1, bq_sh i (by omega) 17 (by omega)] at hg
      have := of_decide_eq_true hg
      omega
    · rw [if_neg k1] at hg
      by_cases k3 : P 0 i = 1 ∧ x = tp_n (P 1 i)
      · rw [if_pos k3] at hg
        have := tp_two hl (Or.inl k3.1)
        have := (hd i (by omega) _ (by omega) hg).1
        omega
      · rw [if_neg k3] at hg
        by_cases k4 : P 0 i = 5 ∧ x = 6 + tp_n (P 1 i)
        · rw [if_pos k4] at hg
          have := tp_two hl (Or.inr (Or.inr k4.1))
          have := (hd i (by omega) _ (by omega) hg).1
          omega
        · rw [if_neg k4] at hg
          obtain ⟨h6, hall⟩ := hd i (by omega) x hx hg
          refine ⟨h6, fun r hr => ?_⟩
          unfold fc_F cl_f
          rw [if_neg k1, if_neg k3, if_neg k4]
          refine bq_t fun hz => ?_
          have hgz := (cl_t_bits hl1 (fun y => l (9 * i + y)) x hr).mp hz
          have hno : ∀ s, s < 6 → ¬ cl_S (fun y => l (9 * i + y)) x s := fun s hs z => by
            have := hall s hs
            unfold cl_S at z
            rw [this] at z
            exact absurd z (by decide)
          have := tp_g_mono (S' := fun _ _ => False) hl1 hr (fun s hs z => hno s hs z) hgz
          unfold tp_g at this
          split at this
          · exact this.2
          · exact this
  · unfold fc_G cl_g at h18
    by_cases k1 : (P 0 i = 0 ∨ P 0 i = 2) ∧ x = tp_n (P 1 i)
    · rw [if_pos k1, bq_sh i (by omega) b h32] at h18
      have := of_decide_eq_true h18
      omega
    · rw [if_neg k1] at h18
      by_cases k3 : P 0 i = 1 ∧ x = tp_n (P 1 i)
      · rw [if_pos k3] at h18
        have := tp_two hl (Or.inl k3.1)
        exact he i (by omega) _ (by omega) b h32 h18
      · rw [if_neg k3] at h18
        by_cases k4 : P 0 i = 5 ∧ x = 6 + tp_n (P 1 i)
        · rw [if_pos k4] at h18
          have := tp_two hl (Or.inr (Or.inr k4.1))
          exact he i (by omega) _ (by omega) b h32 h18
        · rw [if_neg k4] at h18
          exact he i (by omega) x hx b h32 h18
/-- or-ing it into a point -/
theorem fc_or {n : Nat} {P P1 : tp_P} {l o l' o' f g : Nat → Int32} {q : Nat} (hI : fc_I n P P1 l o) (hF : fc_P n P P1 f g q) (h1 : ∀ q', q' ≤ n → ∀ x, x < 9 → l' (9 * q' + x) = if q' = q then l (9 * q' + x) ||| f x else l (9 * q' + x)) (h2 : ∀ q', q' ≤ n → ∀ x, x < 9 → o' (9 * q' + x) = if q' = q then o (9 * q' + x) ||| g x else o (9 * q' + x)) : fc_I n P P1 l' o' := by
  obtain ⟨⟨ha1, ha2, ha3⟩, hb, hc, hd, he⟩ := hI
  obtain ⟨fb, fc, fd, fe⟩ := hF
  have up : ∀ (a b : Int32) (c : Prop) [Decidable c] (r : Nat), bq a r = true → bq (if c then a ||| b else a) r = true := fun a b c _ r h => by
    split
    · rw [bq_or, h, Bool.true_or]
    · exact h
  refine ⟨⟨fun x h6 hx r hr => ?_, fun x hx => ?_, fun x h6 hx => ?_⟩, fun S hS q' hq x hx r hr h => ?_, fun S hS q' hq x hx c h b hb32 hg => ?_, fun q' hq x hx hg => ?_, fun q' hq x hx b h32 h18 => ?_⟩
  · have := h1 0 (by omega) x hx
    rw [Nat.mul_zero, Nat.zero_add] at this
    rw [this]; exact up _ _ _ _ (ha1 x h6 hx r hr)
  · have := h2 0 (by omega) x (by omega)
    rw [Nat.mul_zero, Nat.zero_add] at this
    rw [this]; exact up _ _ _ _ (ha2 x hx)
  · have := h2 0 (by omega) x hx
    rw [Nat.mul_zero, Nat.zero_add] at this
    rw [this]; exact up _ _ _ _ (ha3 x h6 hx)
  · rw [h1 q' hq x hx]
    split
    · rename_i e; subst e
      rw [bq_or, hb S hS q' hq x hx r hr h, fb S hS x hx r hr h]; rfl
    · exact hb S hS q' hq x hx r hr h
  · rw [h2 q' hq x hx] at hg
    split at hg
    · rename_i e; subst e
      rw [bq_or, Bool.or_eq_true] at hg
      rcases hg with hg | hg
      · exact hc S hS q' hq x hx c h b hb32 hg
      · exact fc S hS x hx c h b hb32 hg
    · exact hc S hS q' hq x hx c h b hb32 hg
  · rw [h2 q' hq x hx] at hg
    rw [h1 q' hq x hx]
    split at hg
    · rename_i e
      rw [if_pos e]
      rw [bq_or, Bool.or_eq_true] at hg
      rcases hg with hg | hg
      · have := hd q' hq x hx hg
        exact ⟨this.1, fun r hr => by rw [bq_or, this.2 r hr, Bool.true_or]⟩
      · have := fd x hx hg
        exact ⟨this.1, fun r hr => by rw [bq_or, this.2 r hr, Bool.or_true]⟩
    · rename_i e
      rw [if_neg e]
      exact hd q' hq x hx hg
  · rw [h2 q' hq x hx] at h18
    split at h18
    · rw [bq_or, Bool.or_eq_true] at h18
      rcases h18 with z | z
      · exact he q' hq x hx b h32 z
      · exact fe x hx b h32 z
    · exact he q' hq x hx b h32 h18
/-- nothing more to pass on -/
def fc_C (n : Nat) (P P1 : tp_P) (l o : Nat → Int32) (i : Nat) : Prop := ∀ q, tp_nx n P i q → ∀ x, x < 9 → l (9 * q + x) ||| fc_F P P1 l i x = l (9 * q + x) ∧ o (9 * q + x) ||| fc_G P o i x = o (9 * q + x)
def fc_R (n : Nat) (P P1 : tp_P) (l o : Nat → Int32) : Prop :=
  (∀ q, q ≤ n → ∀ x, x < 9 → ∀ r, r < 6 → (tp_k n P P1 q x r ↔ bq (l (9 * q + x)) r = false)) ∧
  (∀ q, q ≤ n → ∀ x, x < 9 → ∀ c, (tp_v n P q x c ↔ ∀ b, b < 32 → bq (o (9 * q + x)) b = true → og_v P b c)) ∧
  (∀ q, q ≤ n → ∀ x, x < 9 → ∃ b, b < 32 ∧ bq (o (9 * q + x)) b = true) ∧
  (∀ q, q ≤ n → ∀ x, x < 9 → bq (o (9 * q + x)) 17 = true → ∀ r, r < 6 → bq (l (9 * q + x)) r = true) ∧
  ∀ q, q ≤ n → ∀ x, x < 9 → ∀ b, b < 32 → bq (o (9 * q + x)) b = true → b < n ∨ b = 16 ∨ b = 17
theorem fc_end {n : Nat} {P P1 : tp_P} {l o : Nat → Int32} (hn : n ≤ 16) (hP : ∀ i, i < n → tp_line P i) (hP1 : ∀ i, i < n → tp_line P1 i) (hne : ∀ i, i < n → ¬ P 0 i = -1) (hI : fc_I n P P1 l o) (hC : ∀ i, i < n → fc_C n P P1 l o i) : fc_R n P P1 l o := by
  obtain ⟨⟨ha1, ha2, ha3⟩, hb, hc, hd, he⟩ := hI
  have nxle : ∀ i q, i < n → tp_nx n P i q → q ≤ n := by
    intro i q hi h
    rcases h with e | e
    · omega
    · rw [e]; exact tp_tg_le hi
  have k1 : tp_kS n P P1 (fun q x r => q ≤ n ∧ x < 9 ∧ r < 6 ∧ bq (l (9 * q + x)) r = false) := by
    refine ⟨fun x r h => ?_, fun i q hi hq x r hx hr h => ?_⟩
    · refine Classical.byContradiction fun h6 => ?_
      have := ha1 x (by omega) h.2.1 r h.2.2.1
      have h4 := h.2.2.2
      rw [Nat.mul_zero, Nat.zero_add, this] at h4
      exact absurd h4 (by decide)
    · have hcl := (hC i hi q hq x hx).1
      have : bq (fc_F P P1 l i x) r = false := Bool.eq_false_iff.mpr fun z => by
        have := bq_or_same hcl z
        rw [h.2.2.2] at this
        exact absurd this (by decide)
      have := (cl_f_bits (hP i hi) (hP1 i hi) (hne i hi) (fun y => l (9 * i + y)) hx hr).mp this
      exact tp_ks_mono (hP i hi) (hP1 i hi) hx hr (fun y hy s hs hz => ⟨by omega, hy, hs, hz⟩) this
  have v1 : tp_vS n P (fun q x c => q ≤ n ∧ x < 9 ∧ ∀ b, b < 32 → bq (o (9 * q + x)) b = true → og_v P b c) := by
    refine ⟨fun x c h => ?_, fun i q hi hq x c hx h => ?_⟩
    · obtain ⟨-, hx, h⟩ := h
      rw [Nat.mul_zero, Nat.zero_add] at h
      by_cases h6 : x < 6
      · refine ⟨h6, ?_⟩
        rcases h 16 (by omega) (ha2 x h6) with z | z
        · exact z.2
        · omega
      · rcases h 17 (by omega) (ha3 x (by omega) hx) with z | z
        · exact absurd z.1 (by decide)
        · exact absurd z.1 (by decide)
    · have hcl := (hC i hi q hq x hx).2
      have hG : ∀ b, b < 32 → bq (fc_G P o i x) b = true → og_v P b c := fun b hb32 z => h.2.2 b hb32 (bq_or_same hcl z)
      unfold fc_G cl_g at hG
      unfold tp_vs
      by_cases a1 : (P 0 i = 0 ∨ P 0 i = 2) ∧ x = tp_n (P 1 i)
      · rw [if_pos a1] at hG
        have := hG i (by omega) (by rw [bq_sh i (by omega) i (by omega)]; exact decide_eq_true rfl)
        rcases this with z | z
        · omega
        · rw [if_pos ⟨z.2.1, a1.2⟩]; exact z.2.2
      · rw [if_neg a1] at hG
        rw [if_neg (fun z => a1 ⟨Or.inl z.1, z.2⟩), if_neg (fun z => a1 ⟨Or.inr z.1, z.2⟩)]
        by_cases a3 : P 0 i = 1 ∧ x = tp_n (P 1 i)
        · rw [if_pos a3] at hG ⊢
          have := tp_two (hP i hi) (Or.inl a3.1)
          exact ⟨by omega, by omega, hG⟩
        · rw [if_neg a3] at hG ⊢
          by_cases a4 : P 0 i = 5 ∧ x = 6 + tp_n (P 1 i)
          · rw [if_pos a4] at hG ⊢
            have := tp_two (hP i hi) (Or.inr (Or.inr a4.1))
            exact ⟨by omega, by omega, hG⟩
          · rw [if_neg a4] at hG ⊢
            exact ⟨by omega, hx, hG⟩
  have some1 : ∀ q, q ≤ n → ∀ x, x < 9 → ∃ b, b < 32 ∧ bq (o (9 * q + x)) b = true := by
    intro q
    induction q with
    | zero =>
      intro _ x hx
      rw [Nat.mul_zero, Nat.zero_add]
      by_cases h6 : x < 6
      · exact ⟨16, by omega, ha2 x h6⟩
      · exact ⟨17, by omega, ha3 x (by omega) hx⟩
    | succ i ih =>
      intro hi x hx
      have hcl := (hC i (by omega) (i + 1) (Or.inl rfl) x hx).2
      have : ∃ b, b < 32 ∧ bq (fc_G P o i x) b = true := by
        unfold fc_G cl_g
        by_cases a1 : (P 0 i = 0 ∨ P 0 i = 2) ∧ x = tp_n (P 1 i)
        · rw [if_pos a1]
          exact ⟨i, by omega, by rw [bq_sh i (by omega) i (by omega)]; exact decide_eq_true rfl⟩
        · rw [if_neg a1]
          by_cases a3 : P 0 i = 1 ∧ x = tp_n (P 1 i)
          · rw [if_pos a3]
            have := tp_two (hP i (by omega)) (Or.inl a3.1)
            exact ih (by omega) _ (by omega)
          · rw [if_neg a3]
            by_cases a4 : P 0 i = 5 ∧ x = 6 + tp_n (P 1 i)
            · rw [if_pos a4]
              have := tp_two (hP i (by omega)) (Or.inr (Or.inr a4.1))
              exact ih (by omega) _ (by omega)
            · rw [if_neg a4]
              exact ih (by omega) x hx
      obtain ⟨b, hb, hz⟩ := this
      exact ⟨b, hb, bq_or_same hcl hz⟩
  refine ⟨fun q hq x hx r hr => ⟨fun ⟨S, hS, h⟩ => hb S hS q hq x hx r hr h, fun h => ⟨_, k1, hq, hx, hr, h⟩⟩, fun q hq x hx c => ⟨fun ⟨S, hS, h⟩ => hc S hS q hq x hx c h, fun h => ⟨_, v1, hq, hx, h⟩⟩, some1, fun q hq x hx h => (hd q hq x hx h).2, he⟩
/-- room to grow -/
def fc_z (l o : Nat → Int32) : Nat → Nat
  | 0 => 0
  | k + 1 => fc_z l o k + (bq_z (l k) + bq_z (o k))
theorem fc_z_le {l o l' o' : Nat → Int32} (h : ∀ k, bq_z (l' k) ≤ bq_z (l k) ∧ bq_z (o' k) ≤ bq_z (o k)) : ∀ k, fc_z l' o' k ≤ fc_z l o k
  | 0 => Nat.le_refl 0
  | k + 1 => by
    have := fc_z_le h k
    have := h k
    unfold fc_z
    omega
theorem fc_z_lt {l o l' o' : Nat → Int32} (h : ∀ k, bq_z (l' k) ≤ bq_z (l k) ∧ bq_z (o' k) ≤ bq_z (o k)) {j : Nat} (hj : bq_z (l' j) < bq_z (l j) ∨ bq_z (o' j) < bq_z (o j)) : ∀ k, j < k → fc_z l' o' k < fc_z l o k
  | 0, q => by omega
  | k + 1, q => by
    have h1 := h k
    unfold fc_z
    by_cases e : j = k
    · subst e
      have := fc_z_le h j
      omega
    · have := fc_z_lt h hj k (by omega)
      omega
theorem sq_s_8 {q q' x : Nat} {u : tc_S} (hx : x < 9) : sq_s q 9 u 68 (9 * q' + x) = if q' = q then u 68 (9 * q' + x) ||| u 70 x else u 68 (9 * q' + x) := by
  unfold sq_s
  by_cases e : q' = q
  · subst e
    rw [if_pos ⟨rfl, by omega, by omega⟩, if_pos rfl, Nat.add_sub_cancel_left]
  · rw [if_neg (fun z => by omega), if_neg (fun z => absurd z.1 (by decide)), if_neg e]
theorem sq_s_9 {q q' x : Nat} {u : tc_S} (hx : x < 9) : sq_s q 9 u 69 (9 * q' + x) = if q' = q then u 69 (9 * q' + x) ||| u 71 x else u 69 (9 * q' + x) := by
  unfold sq_s
  rw [if_neg (n69 _)]
  by_cases e : q' = q
  · subst e
    rw [if_pos ⟨rfl, by omega, by omega⟩, if_pos rfl, Nat.add_sub_cancel_left]
  · rw [if_neg (fun z => by omega), if_neg e]
theorem sq_s_z (q : Nat) (u : tc_S) : ∀ k, bq_z (sq_s q 9 u 68 k) ≤ bq_z (u 68 k) ∧ bq_z (sq_s q 9 u 69 k) ≤ bq_z (u 69 k) := by
  intro k
  unfold sq_s
  constructor
  · split
    · exact (bq_z_or _ _).1
    · rw [if_neg (fun z => absurd z.1 (by decide))]; exact Nat.le_refl _
  · rw [if_neg (n69 _)]
    split
    · exact (bq_z_or _ _).1
    · exact Nat.le_refl _
theorem sq_s_lt {q : Nat} (hq : q < 17) {u : tc_S} (h : ∃ x, x < 9 ∧ sq_c u q x) : fc_z (sq_s q 9 u 68) (sq_s q 9 u 69) 153 < fc_z (u 68) (u 69) 153 := by
  obtain ⟨x, hx, h⟩ := h
  refine fc_z_lt (sq_s_z q u) (j := 9 * q + x) ?_ 153 (by omega)
  rcases h with h | h
  · left; rw [sq_s_8 hx, if_pos rfl]; exact (bq_z_or _ _).2 h
  · right; rw [sq_s_9 hx, if_pos rfl]; exact (bq_z_or _ _).2 h
theorem sq_s_same {q : Nat} {u : tc_S} (h : ¬ ∃ x, x < 9 ∧ sq_c u q x) : sq_s q 9 u = u := by
  have h' : ∀ x, x < 9 → u 68 (9 * q + x) ||| u 70 x = u 68 (9 * q + x) ∧ u 69 (9 * q + x) ||| u 71 x = u 69 (9 * q + x) := fun x hx => ⟨Classical.byContradiction fun z => h ⟨x, hx, Or.inl z⟩, Classical.byContradiction fun z => h ⟨x, hx, Or.inr z⟩⟩
  funext c j
  unfold sq_s
  split
  · rename_i k
    rw [k.1]
    have := (h' (j - 9 * q) (by omega)).1
    rw [show 9 * q + (j - 9 * q) = j by omega] at this
    exact this
  · split
    · rename_i k
      rw [k.1]
      have := (h' (j - 9 * q) (by omega)).2
      rw [show 9 * q + (j - 9 * q) = j by omega] at this
      exact this
    · rfl
