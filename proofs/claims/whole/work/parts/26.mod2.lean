/-! a search: nodes met, nodes waiting -/
def df_Z (u : tc_S) : Nat → Nat
  | 0 => 0
  | k + 1 => df_Z u k + (if u 66 k = 0 then 1 else 0)
theorem df_Z_le (u : tc_S) : ∀ k, df_Z u k ≤ k
  | 0 => Nat.le_refl 0
  | k + 1 => by
    have := df_Z_le u k
    unfold df_Z
    split <;> omega
theorem df_Z_same {u v : tc_S} (h : v 66 = u 66) : ∀ k, df_Z v k = df_Z u k
  | 0 => rfl
  | k + 1 => by unfold df_Z; rw [df_Z_same h k, h]
theorem df_Z_meet {u v : tc_S} {x : Nat} (h0 : u 66 x = 0) (hv : v 66 x = 1) (ho : ∀ y, y ≠ x → v 66 y = u 66 y) : ∀ k, df_Z v k + (if x < k then 1 else 0) = df_Z u k
  | 0 => by rw [if_neg (by omega)]; rfl
  | k + 1 => by
    have ih := df_Z_meet h0 hv ho k
    unfold df_Z
    by_cases e : x = k
    · subst e
      rw [if_neg (by omega)] at ih
      rw [if_pos (show x < x + 1 by omega), hv, h0, if_neg (by decide), if_pos rfl]
      omega
    · rw [ho k (fun q => e q.symm)]
      by_cases q : x < k
      · rw [if_pos q] at ih
        rw [if_pos (show x < k + 1 by omega)]
        omega
      · rw [if_neg q] at ih
        rw [if_neg (show ¬ x < k + 1 by omega)]
        omega
theorem df_Z_zero {u : tc_S} (h : ∀ x, x < 34 → u 66 x = 0) : ∀ k, k ≤ 34 → df_Z u k = k
  | 0, _ => rfl
  | k + 1, hk => by
    unfold df_Z
    rw [df_Z_zero h k (by omega), if_pos (h k (by omega))]
def df_R (st : Nat → Prop) (suc : Nat → Nat → Prop) (x : Nat) : Prop := ∀ T : Nat → Prop, (∀ x, st x → T x) → (∀ x y, T x → suc x y → T y) → T x
theorem df_R_st {st : Nat → Prop} {suc : Nat → Nat → Prop} {x : Nat} (h : st x) : df_R st suc x := fun _ h1 _ => h1 x h
theorem df_R_suc {st : Nat → Prop} {suc : Nat → Nat → Prop} {x y : Nat} (h : df_R st suc x) (hs : suc x y) : df_R st suc y := fun T h1 h2 => h2 x y (h T h1 h2) hs
/-- a node x0 is being opened -/
def df_J (st : Nat → Prop) (suc : Nat → Nat → Prop) (ok : Nat → Prop) (x0 k : Nat) (u : tc_S) : Prop :=
  u 56 14 = nI k ∧ k + df_Z u 34 ≤ 34 ∧ (∀ x, x < 34 → u 66 x = 0 ∨ u 66 x = 1) ∧ (∀ i, i < k → ∃ x, x < 34 ∧ u 67 i = nI x ∧ u 66 x = 1) ∧ (∀ x, x < 34 → u 66 x = 1 → df_R st suc x) ∧ ∀ x, x < 34 → u 66 x = 1 → x = x0 ∨ (∃ i, i < k ∧ u 67 i = nI x) ∨ (ok x ∧ ∀ y, suc x y → u 66 y = 1)
def df_I (st : Nat → Prop) (suc : Nat → Nat → Prop) (ok : Nat → Prop) (k : Nat) (u : tc_S) : Prop := df_J st suc ok 34 k u ∧ ∀ x, st x → u 66 x = 1
def df_F (u v : tc_S) : Prop := (∀ q, q ≠ 56 → q ≠ 66 → q ≠ 67 → v q = u q) ∧ ∀ j, j ≠ 14 → v 56 j = u 56 j
theorem df_F.rf {u : tc_S} : df_F u u := ⟨fun _ _ _ _ => rfl, fun _ _ => rfl⟩
theorem df_F.tr {u v w : tc_S} (h : df_F u v) (h2 : df_F v w) : df_F u w := ⟨fun q a b c => (h2.1 q a b c).trans (h.1 q a b c), fun j a => (h2.2 j a).trans (h.2 j a)⟩
theorem df_pm {u v : tc_S} (h : df_F u v) (o : Nat) : pm v o = pm u o := by
  funext j i
  unfold pm
  by_cases hj : j < 4
  · rw [if_pos hj, if_pos hj, h.1 (57 + j) (by omega) (by omega) (by omega)]
  · rw [if_neg hj, if_neg hj]
theorem df_F_left {u : tc_S} {x : Int32} : df_F u (tc_up u 56 14 x) := ⟨fun q a _ _ => tc_up_ne a, fun j a => tc_up_at a⟩
theorem df_F_meet {u : tc_S} {x k : Nat} : df_F u (sd_meet x k u) := by
  unfold sd_meet
  split
  · refine ⟨fun q a b c => ?_, fun j a => ?_⟩
    · rw [tc_up_ne a, tc_up_ne c, tc_up_ne b]
    · rw [tc_up_at a, tc_up_ne (by decide), tc_up_ne (by decide)]
  · exact df_F.rf
theorem df_F_forget {u : tc_S} : df_F u (tc_up (tc_row u 66 (fun _ => 0) 34) 56 14 0) := by
  refine ⟨fun q a b c => ?_, fun j a => ?_⟩
  · rw [tc_up_ne a, tc_row_ne b]
  · rw [tc_up_at a, tc_row_ne (by decide)]
theorem df_start {st : Nat → Prop} {suc : Nat → Nat → Prop} {ok : Nat → Prop} {u : tc_S} : df_J st suc ok 34 0 (tc_up (tc_row u 66 (fun _ => 0) 34) 56 14 0) := by
  have e : ∀ x, x < 34 → (tc_up (tc_row u 66 (fun _ => 0) 34) 56 14 0) 66 x = 0 := fun x hx => by rw [tc_up_ne (by decide), tc_row_in hx]
  refine ⟨tc_up_self, ?_, fun x hx => Or.inl (e x hx), fun i hi => absurd hi (by omega), fun x hx h => ?_, fun x hx h => ?_⟩
  · rw [df_Z_zero e 34 (by omega)]; omega
  · rw [e x hx] at h; exact absurd h (by decide)
  · rw [e x hx] at h; exact absurd h (by decide)
theorem df_room {st : Nat → Prop} {suc : Nat → Nat → Prop} {ok : Nat → Prop} {x0 k x : Nat} {u : tc_S} (h : df_J st suc ok x0 k u) (hx : x < 34) (h0 : u 66 x = 0) : k < 34 := by
  have h2 := h.2.1
  have key : ∀ n, x < n → 0 < df_Z u n := by
    intro n
    induction n with
    | zero => intro q; omega
    | succ n ih =>
      intro q
      unfold df_Z
      by_cases e : x = n
      · subst e; rw [if_pos h0]; omega
      · have := ih (by omega); omega
  have := key 34 hx
  omega
theorem df_meet {st : Nat → Prop} {suc : Nat → Nat → Prop} {ok : Nat → Prop} {x0 k x : Nat} {u : tc_S} (h : df_J st suc ok x0 k u) (hx : x < 34) (hr : df_R st suc x) : ∃ k', df_J st suc ok x0 k' (sd_meet x k u) ∧ sd_meet x k u 66 x = 1 ∧ (∀ y, u 66 y = 1 → sd_meet x k u 66 y = 1) ∧ 2 * df_Z (sd_meet x k u) 34 + k' ≤ 2 * df_Z u 34 + k := by
  obtain ⟨h1, h2, h3, h4, h5, h6⟩ := h
  unfold sd_meet
  by_cases h0 : u 66 x = 0
  · rw [if_pos h0]
    have m : ∀ y, (tc_up (tc_up (tc_up u 66 x 1) 67 k (nI x)) 56 14 (nI (k + 1))) 66 y = if y = x then 1 else u 66 y := fun y => by
      rw [tc_up_ne (by decide), tc_up_ne (by decide), tc_up_v, if_pos rfl]
    have wt : ∀ i, (tc_up (tc_up (tc_up u 66 x 1) 67 k (nI x)) 56 14 (nI (k + 1))) 67 i = if i = k then nI x else u 67 i := fun i => by
      rw [tc_up_ne (by decide), tc_up_v, if_pos rfl, tc_up_ne (by decide)]
    have mono : ∀ y, u 66 y = 1 → (tc_up (tc_up (tc_up u 66 x 1) 67 k (nI x)) 56 14 (nI (k + 1))) 66 y = 1 := fun y hy => by
      rw [m]; split
      · rfl
      · exact hy
    have z := df_Z_meet (u := u) (v := tc_up (tc_up (tc_up u 66 x 1) 67 k (nI x)) 56 14 (nI (k + 1))) h0 (by rw [m, if_pos rfl]) (fun y hy => by rw [m, if_neg hy]) 34
    rw [if_pos hx] at z
    refine ⟨k + 1, ⟨tc_up_self, by omega, fun y hy => ?_, fun i hi => ?_, fun y hy hm => ?_, fun y hy hm => ?_⟩, by rw [m, if_pos rfl], mono, by omega⟩
    · rw [m]; split
      · exact Or.inr rfl
      · exact h3 y hy
    · rw [wt]
      by_cases e : i = k
      · exact ⟨x, hx, by rw [if_pos e], by rw [m, if_pos rfl]⟩
      · obtain ⟨y, hy, e1, e2⟩ := h4 i (by omega)
        exact ⟨y, hy, by rw [if_neg e]; exact e1, mono y e2⟩
    · rw [m] at hm
      by_cases e : y = x
      · rw [e]; exact hr
      · rw [if_neg e] at hm; exact h5 y hy hm
    · rw [m] at hm
      by_cases e : y = x
      · exact Or.inr (Or.inl ⟨k, by omega, by rw [wt, if_pos rfl, e]⟩)
      · rw [if_neg e] at hm
        rcases h6 y hy hm with q | ⟨i, hi, q⟩ | q
        · exact Or.inl q
        · exact Or.inr (Or.inl ⟨i, by omega, by rw [wt, if_neg (by omega)]; exact q⟩)
        · exact Or.inr (Or.inr ⟨q.1, fun z hz => mono z (q.2 z hz)⟩)
  · rw [if_neg h0]
    have h01 := (h3 x hx).resolve_left h0
    exact ⟨k, ⟨h1, h2, h3, h4, h5, h6⟩, h01, fun _ hy => hy, Nat.le_refl _⟩
theorem df_pop {st : Nat → Prop} {suc : Nat → Nat → Prop} {ok : Nat → Prop} {k : Nat} {u : tc_S} (h : df_I st suc ok (k + 1) u) : ∃ x, x < 34 ∧ u 67 k = nI x ∧ u 66 x = 1 ∧ df_R st suc x ∧ df_J st suc ok x k (tc_up u 56 14 (nI k)) ∧ k < 34 ∧ 2 * df_Z (tc_up u 56 14 (nI k)) 34 + k < 2 * df_Z u 34 + (k + 1) := by
  obtain ⟨⟨h1, h2, h3, h4, h5, h6⟩, h7⟩ := h
  obtain ⟨x, hx, e1, e2⟩ := h4 k (by omega)
  have e66 : (tc_up u 56 14 (nI k)) 66 = u 66 := tc_up_ne (by decide)
  have e67 : (tc_up u 56 14 (nI k)) 67 = u 67 := tc_up_ne (by decide)
  have z := df_Z_same e66 34
  refine ⟨x, hx, e1, e2, h5 x hx e2, ⟨tc_up_self, by omega, by rw [e66]; exact h3, ?_, by rw [e66]; exact h5, ?_⟩, by omega, by omega⟩
  · intro i hi
    rw [e67, e66]
    exact h4 i (by omega)
  · rw [e66, e67]
    intro y hy hm
    rcases h6 y hy hm with q | ⟨i, hi, q⟩ | q
    · omega
    · by_cases e : i = k
      · subst e
        refine Or.inl ?_
        rw [e1] at q
        exact ((nI_eq (by omega) (by omega)).mp q).symm
      · exact Or.inr (Or.inl ⟨i, by omega, q⟩)
    · exact Or.inr (Or.inr q)
theorem df_close {st : Nat → Prop} {suc : Nat → Nat → Prop} {ok : Nat → Prop} {x0 k : Nat} {u : tc_S} (h : df_J st suc ok x0 k u) (hok : ok x0) (hc : ∀ y, suc x0 y → u 66 y = 1) (hs : ∀ x, st x → u 66 x = 1) : df_I st suc ok k u := by
  obtain ⟨h1, h2, h3, h4, h5, h6⟩ := h
  refine ⟨⟨h1, h2, h3, h4, h5, fun x hx hm => ?_⟩, hs⟩
  rcases h6 x hx hm with q | q | q
  · subst q; exact Or.inr (Or.inr ⟨hok, hc⟩)
  · exact Or.inr (Or.inl q)
  · exact Or.inr (Or.inr q)
/-- the end: what is met is what can be reached -/
theorem df_end {st : Nat → Prop} {suc : Nat → Nat → Prop} {ok : Nat → Prop} {u : tc_S} (h : df_I st suc ok 0 u) (hb : ∀ x y, x < 34 → suc x y → y < 34) (hsb : ∀ x, st x → x < 34) {x : Nat} (hx : x < 34) : u 66 x = 1 ↔ df_R st suc x := by
  obtain ⟨⟨h1, h2, h3, h4, h5, h6⟩, h7⟩ := h
  refine ⟨h5 x hx, fun hr => ?_⟩
  refine (hr (fun y => y < 34 ∧ u 66 y = 1) (fun y hy => ⟨hsb y hy, h7 y hy⟩) (fun y z hy hz => ⟨hb y z hy.1 hz, ?_⟩)).2
  rcases h6 y hy.1 hy.2 with q | ⟨i, hi, -⟩ | q
  · exact absurd q (by omega)
  · exact absurd hi (by omega)
  · exact q.2 z hz
theorem df_ok {st : Nat → Prop} {suc : Nat → Nat → Prop} {ok : Nat → Prop} {u : tc_S} (h : df_I st suc ok 0 u) {x : Nat} (hx : x < 34) (hm : u 66 x = 1) : ok x ∧ ∀ y, suc x y → u 66 y = 1 := by
  rcases h.1.2.2.2.2.2 x hx hm with q | ⟨i, hi, -⟩ | q
  · exact absurd q (by omega)
  · exact absurd hi (by omega)
  · exact q
/-- two nodes are met from a node -/
theorem df_two {st : Nat → Prop} {suc : Nat → Nat → Prop} {ok : Nat → Prop} {x k a b : Nat} {u : tc_S} (h : df_J st suc ok x k u) (ha : a < 34) (hb : b < 34) (ra : df_R st suc a) (rb : df_R st suc b) (hok : ok x) (hc : ∀ y, suc x y → y = a ∨ y = b) (hs : ∀ x, st x → u 66 x = 1 ∨ x = a ∨ x = b) :
    ∃ k1 k2, sd_meet a k u 56 14 = nI k1 ∧ (u 66 a = 0 → k < 34) ∧ (sd_meet a k u 66 b = 0 → k1 < 34) ∧ df_I st suc ok k2 (sd_meet b k1 (sd_meet a k u)) ∧ df_F u (sd_meet b k1 (sd_meet a k u)) ∧ 2 * df_Z (sd_meet b k1 (sd_meet a k u)) 34 + k2 ≤ 2 * df_Z u 34 + k := by
  obtain ⟨k1, j1, m1, n1, z1⟩ := df_meet h ha ra
  obtain ⟨k2, j2, m2, n2, z2⟩ := df_meet j1 hb rb
  refine ⟨k1, k2, j1.1, fun q => df_room h ha q, fun q => df_room j1 hb q, df_close j2 hok (fun y hy => ?_) (fun y hy => ?_), df_F_meet.tr df_F_meet, by omega⟩
  · rcases hc y hy with e | e
    · rw [e]; exact n2 a m1
    · rw [e]; exact m2
  · rcases hs y hy with e | e | e
    · exact n2 y (n1 y e)
    · rw [e]; exact n2 a m1
    · rw [e]; exact m2
/-! lines of the short program -/
theorem sd_w {P : tp_P} {i r : Nat} (hl : tp_line P i) (hr : r < 6) : tp_w P i = some r ↔ ¬ P 0 i < 0 ∧ ¬ 2 < P 0 i ∧ P 1 i = nI r := by
  obtain ⟨h0, h1, -⟩ := hl
  unfold tp_w
  have one : ∀ x, x ≠ (-1 : Int32) → P 0 i = x → (tp_n (P 1 i) = r ↔ P 1 i = nI r) := fun x hx hk => by
    obtain ⟨a, ha, ea⟩ := h1 (by rw [hk]; exact hx)
    rw [ea, show tp_n (nI a) = a from nI_clamp (by omega), nI_eq (by omega) (by omega)]
  rcases h0 with k | k | k | k | k | k | k <;> rw [k]
  · rw [if_neg (by decide)]; exact ⟨fun h => (by cases h), fun h => absurd h.1 (by decide)⟩
  · rw [if_pos (by decide), Option.some.injEq, one 0 (by decide) k]; exact ⟨fun h => ⟨by decide, by decide, h⟩, fun h => h.2.2⟩
  · rw [if_pos (by decide), Option.some.injEq, one 1 (by decide) k]; exact ⟨fun h => ⟨by decide, by decide, h⟩, fun h => h.2.2⟩
  · rw [if_pos (by decide), Option.some.injEq, one 2 (by decide) k]; exact ⟨fun h => ⟨by decide, by decide, h⟩, fun h => h.2.2⟩
  · rw [if_neg (by decide)]; exact ⟨fun h => (by cases h), fun h => absurd h.2.1 (by decide)⟩
  · rw [if_neg (by decide)]; exact ⟨fun h => (by cases h), fun h => absurd h.2.1 (by decide)⟩
  · rw [if_neg (by decide)]; exact ⟨fun h => (by cases h), fun h => absurd h.2.1 (by decide)⟩
def sd_us (P : tp_P) (i s : Nat) : Prop := ∃ j, (j = 1 ∨ j = 2 ∨ j = 3) ∧ tp_rd P i j ∧ P 0 i ≠ 5 ∧ tp_n (P j i) = s
theorem sd_us_iff {P : tp_P} {i s : Nat} (hl : tp_line P i) (hs : s < 6) : sd_us P i s ↔ ((P 0 i = 3 ∨ P 0 i = 4) ∧ P 1 i = nI s) ∨ ((P 0 i = 1 ∨ P 0 i = 2) ∧ P 2 i = nI s) ∨ (P 0 i = 2 ∧ P 3 i = nI s) := by
  obtain ⟨h0, h1, h2, h3, h4, -⟩ := hl
  have cv : ∀ j, (∃ a, a < 6 ∧ P j i = nI a) → (tp_n (P j i) = s ↔ P j i = nI s) := fun j ⟨a, ha, ea⟩ => by
    rw [ea, show tp_n (nI a) = a from nI_clamp (by omega), nI_eq (by omega) (by omega)]
  constructor
  · rintro ⟨j, -, h, h5, e⟩
    rcases h with ⟨rfl, k⟩ | ⟨rfl, k⟩ | ⟨rfl, k⟩
    · refine Or.inl ⟨k, (cv 1 (h1 ?_)).mp e⟩
      rcases k with k | k <;> rw [k] <;> decide
    · refine Or.inr (Or.inl ⟨?_, (cv 2 (h2 k)).mp e⟩)
      rcases k with k | k | k
      · exact Or.inl k
      · exact Or.inr k
      · exact absurd k h5
    · exact Or.inr (Or.inr ⟨k, (cv 3 (h4 k)).mp e⟩)
  · rintro (⟨k, e⟩ | ⟨k, e⟩ | ⟨k, e⟩)
    · refine ⟨1, Or.inl rfl, Or.inl ⟨rfl, k⟩, ?_, (cv 1 (h1 ?_)).mpr e⟩
      · rcases k with k | k <;> rw [k] <;> decide
      · rcases k with k | k <;> rw [k] <;> decide
    · refine ⟨2, Or.inr (Or.inl rfl), Or.inr (Or.inl ⟨rfl, ?_⟩), ?_, (cv 2 (h2 ?_)).mpr e⟩
      · rcases k with k | k
        · exact Or.inl k
        · exact Or.inr (Or.inl k)
      · rcases k with k | k <;> rw [k] <;> decide
      · rcases k with k | k
        · exact Or.inl k
        · exact Or.inr (Or.inl k)
    · exact ⟨3, Or.inr (Or.inr rfl), Or.inr (Or.inr ⟨rfl, k⟩), by rw [k]; decide, (cv 3 (h4 k)).mpr e⟩
set_option maxRecDepth 100000 in
set_option maxHeartbeats 4000000 in
theorem c_D_writes (l : Launch) (G : tc_G) (u : tc_S) {i r : Nat} (hi : i < 16) (hr : r < 6) (hl : tp_line (pm u 16) i) : tc_C tcx G l yD_writes wD_writes r0D_writes 0 0 [.ref (tc_ad G 56), .int (nI i), .int (nI r)] u (tc_Ki (tp_b (tp_w (pm u 16) i = some r)) u) := by
  refine tw_ofV (own := "TracedCodeModel") [some (.ref (tc_ad G 56)), some (.int (nI i)), some (.int (nI r))] (by decide +kernel) rfl (Nat.le_of_ble_eq_true rfl) (by rfl) (fun p e s m args below meth c => ?_)
  have i32 : tc_ix (16 + nI i) 32 (16 + i) := ix16 hi
  have e0 : pm u 16 0 i = u 57 (16 + i) := pm_of (by decide)
  have e1 : pm u 16 1 i = u 58 (16 + i) := pm_of (by decide)
  have e2 : pm u 16 2 i = u 59 (16 + i) := pm_of (by decide)
  have e3 : pm u 16 3 i = u 60 (16 + i) := pm_of (by decide)
  have hw := sd_w hl hr
  rw [e0, e1] at hw
  refine tv_aload_n (pc := 0) dD_writes_0 (by rfl) ?_
  refine tv_getR (pc := 1) 2 tb_56 (by rfl) uwD_ (by decide) wm_664 (by rfl) dD_writes_1 ?_
  refine tv_bipush (v := 16) (pc := 4) dD_writes_4 (by decide) ?_
  refine tv_iload_n (pc := 6) dD_writes_6 (by rfl) ?_
  refine tv_iadd (pc := 7) dD_writes_7 ?_
  refine tv_iald (pc := 8) tb_57 (by assumption) dD_writes_8 ?_
  refine tv_if_lt (pc := 9) 42 dD_writes_9 (by decide) (fun h9 => ?_) (fun h9 => ?_)
  · skip
    refine tv_iconst (v := 0) (pc := 42) dD_writes_42 (by decide) ?_
    exact tv_zret (pc := 43) dD_writes_43 rfl (Nat.le_refl _) (Nat.le_refl _) (by rfl) (by first | exact ⟨by rw [tp_b_t (hw.mpr ⟨by assumption, by assumption, by assumption⟩)], rfl⟩ | exact ⟨by rw [tp_b_f (fun q => (hw.mp q).1 (by assumption))], rfl⟩ | exact ⟨by rw [tp_b_f (fun q => (hw.mp q).2.1 (by assumption))], rfl⟩ | exact ⟨by rw [tp_b_f (fun q => absurd (hw.mp q).2.2 (by assumption))], rfl⟩)
  · skip
    refine tv_aload_n (pc := 12) dD_writes_12 (by rfl) ?_
    refine tv_getR (pc := 13) 2 tb_56 (by rfl) uwD_ (by decide) wm_664 (by rfl) dD_writes_13 ?_
    refine tv_bipush (v := 16) (pc := 16) dD_writes_16 (by decide) ?_
    refine tv_iload_n (pc := 18) dD_writes_18 (by rfl) ?_
    refine tv_iadd (pc := 19) dD_writes_19 ?_
    refine tv_iald (pc := 20) tb_57 (by assumption) dD_writes_20 ?_
    refine tv_iconst (v := 2) (pc := 21) dD_writes_21 (by decide) ?_
    refine tv_icmp_gt (pc := 22) 42 dD_writes_22 (by decide) (fun h22 => ?_) (fun h22 => ?_)
    · skip
      refine tv_iconst (v := 0) (pc := 42) dD_writes_42 (by decide) ?_
      exact tv_zret (pc := 43) dD_writes_43 rfl (Nat.le_refl _) (Nat.le_refl _) (by rfl) (by first | exact ⟨by rw [tp_b_t (hw.mpr ⟨by assumption, by assumption, by assumption⟩)], rfl⟩ | exact ⟨by rw [tp_b_f (fun q => (hw.mp q).1 (by assumption))], rfl⟩ | exact ⟨by rw [tp_b_f (fun q => (hw.mp q).2.1 (by assumption))], rfl⟩ | exact ⟨by rw [tp_b_f (fun q => absurd (hw.mp q).2.2 (by assumption))], rfl⟩)
    · skip
      refine tv_aload_n (pc := 25) dD_writes_25 (by rfl) ?_
      refine tv_getR (pc := 26) 3 tb_56 (by rfl) uwD_ (by decide) wm_665 (by rfl) dD_writes_26 ?_
      refine tv_bipush (v := 16) (pc := 29) dD_writes_29 (by decide) ?_
      refine tv_iload_n (pc := 31) dD_writes_31 (by rfl) ?_
      refine tv_iadd (pc := 32) dD_writes_32 ?_
      refine tv_iald (pc := 33) tb_58 (by assumption) dD_writes_33 ?_
      refine tv_iload_n (pc := 34) dD_writes_34 (by rfl) ?_
      refine tv_icmp_ne (pc := 35) 42 dD_writes_35 (by decide) (fun h35 => ?_) (fun h35 => ?_)
      · skip
        refine tv_iconst (v := 0) (pc := 42) dD_writes_42 (by decide) ?_
        exact tv_zret (pc := 43) dD_writes_43 rfl (Nat.le_refl _) (Nat.le_refl _) (by rfl) (by first | exact ⟨by rw [tp_b_t (hw.mpr ⟨by assumption, by assumption, by assumption⟩)], rfl⟩ | exact ⟨by rw [tp_b_f (fun q => (hw.mp q).1 (by assumption))], rfl⟩ | exact ⟨by rw [tp_b_f (fun q => (hw.mp q).2.1 (by assumption))], rfl⟩ | exact ⟨by rw [tp_b_f (fun q => absurd (hw.mp q).2.2 (by assumption))], rfl⟩)
      · skip
        refine tv_iconst (v := 1) (pc := 38) dD_writes_38 (by decide) ?_
        refine tv_goto (pc := 39) 43 dD_writes_39 (by decide) ?_
        exact tv_zret (pc := 43) dD_writes_43 rfl (Nat.le_refl _) (Nat.le_refl _) (by rfl) (by first | exact ⟨by rw [tp_b_t (hw.mpr ⟨by assumption, by assumption, by assumption⟩)], rfl⟩ | exact ⟨by rw [tp_b_f (fun q => (hw.mp q).1 (by assumption))], rfl⟩ | exact ⟨by rw [tp_b_f (fun q => (hw.mp q).2.1 (by assumption))], rfl⟩ | exact ⟨by rw [tp_b_f (fun q => absurd (hw.mp q).2.2 (by assumption))], rfl⟩)
set_option maxRecDepth 100000 in
set_option maxHeartbeats 4000000 in
theorem c_D_uses (l : Launch) (G : tc_G) (u : tc_S) {i r : Nat} (hi : i < 16) (hr : r < 6) (hl : tp_line (pm u 16) i) : tc_C tcx G l yD_uses wD_uses r0D_uses 0 0 [.ref (tc_ad G 56), .int (nI i), .int (nI r)] u (tc_Ki (tp_b (sd_us (pm u 16) i r)) u) := by
  refine tw_ofV (own := "TracedCodeModel") [some (.ref (tc_ad G 56)), some (.int (nI i)), some (.int (nI r)), none] (by decide +kernel) rfl (Nat.le_of_ble_eq_true rfl) (by rfl) (fun p e s m args below meth c => ?_)
  have i32 : tc_ix (16 + nI i) 32 (16 + i) := ix16 hi
  have e0 : pm u 16 0 i = u 57 (16 + i) := pm_of (by decide)
  have e1 : pm u 16 1 i = u 58 (16 + i) := pm_of (by decide)
  have e2 : pm u 16 2 i = u 59 (16 + i) := pm_of (by decide)
  have e3 : pm u 16 3 i = u 60 (16 + i) := pm_of (by decide)
  rw [tp_b_iff (sd_us_iff hl hr), e0, e1, e2, e3]
  have t74 : (((u 57 (16 + i) = 3 ∨ u 57 (16 + i) = 4) ∧ u 58 (16 + i) = nI r) ∨ ((u 57 (16 + i) = 1 ∨ u 57 (16 + i) = 2) ∧ u 59 (16 + i) = nI r) ∨ (u 57 (16 + i) = 2 ∧ u 60 (16 + i) = nI r)) → tc_V tcx G p l e r0D_uses s m args below meth c bD_uses 4 tw "TracedCodeModel" (some .boolean) [] (MQ below (tc_Qc tcx G (tc_Ki (tp_b (((u 57 (16 + i) = 3 ∨ u 57 (16 + i) = 4) ∧ u 58 (16 + i) = nI r) ∨ ((u 57 (16 + i) = 1 ∨ u 57 (16 + i) = 2) ∧ u 59 (16 + i) = nI r) ∨ (u 57 (16 + i) = 2 ∧ u 60 (16 + i) = nI r))) u) s.heap.size) args s 0 0 (tc_A tcx G s.heap.size)) 0 0 u 74 [some (.ref (tc_ad G 56)), some (.int (nI i)), some (.int (nI r)), some (.int (u 57 (16 + i)))] [] := by
    intro hq
    refine tv_iconst (v := 1) (pc := 74) dD_uses_74 (by decide) ?_
    refine tv_goto (pc := 75) 79 dD_uses_75 (by decide) ?_
    exact tv_zret (pc := 79) dD_uses_79 rfl (Nat.le_refl _) (Nat.le_refl _) (by rfl) ⟨by rw [tp_b_t hq], rfl⟩
  have t78 : ¬ (((u 57 (16 + i) = 3 ∨ u 57 (16 + i) = 4) ∧ u 58 (16 + i) = nI r) ∨ ((u 57 (16 + i) = 1 ∨ u 57 (16 + i) = 2) ∧ u 59 (16 + i) = nI r) ∨ (u 57 (16 + i) = 2 ∧ u 60 (16 + i) = nI r)) → tc_V tcx G p l e r0D_uses s m args below meth c bD_uses 4 tw "TracedCodeModel" (some .boolean) [] (MQ below (tc_Qc tcx G (tc_Ki (tp_b (((u 57 (16 + i) = 3 ∨ u 57 (16 + i) = 4) ∧ u 58 (16 + i) = nI r) ∨ ((u 57 (16 + i) = 1 ∨ u 57 (16 + i) = 2) ∧ u 59 (16 + i) = nI r) ∨ (u 57 (16 + i) = 2 ∧ u 60 (16 + i) = nI r))) u) s.heap.size) args s 0 0 (tc_A tcx G s.heap.size)) 0 0 u 78 [some (.ref (tc_ad G 56)), some (.int (nI i)), some (.int (nI r)), some (.int (u 57 (16 + i)))] [] := by
    intro hq
    refine tv_iconst (v := 0) (pc := 78) dD_uses_78 (by decide) ?_
    exact tv_zret (pc := 79) dD_uses_79 rfl (Nat.le_refl _) (Nat.le_refl _) (by rfl) ⟨by rw [tp_b_f hq], rfl⟩
  have t56 : ¬ ((u 57 (16 + i) = 3 ∨ u 57 (16 + i) = 4) ∧ u 58 (16 + i) = nI r) → ¬ ((u 57 (16 + i) = 1 ∨ u 57 (16 + i) = 2) ∧ u 59 (16 + i) = nI r) → tc_V tcx G p l e r0D_uses s m args below meth c bD_uses 4 tw "TracedCodeModel" (some .boolean) [] (MQ below (tc_Qc tcx G (tc_Ki (tp_b (((u 57 (16 + i) = 3 ∨ u 57 (16 + i) = 4) ∧ u 58 (16 + i) = nI r) ∨ ((u 57 (16 + i) = 1 ∨ u 57 (16 + i) = 2) ∧ u 59 (16 + i) = nI r) ∨ (u 57 (16 + i) = 2 ∧ u 60 (16 + i) = nI r))) u) s.heap.size) args s 0 0 (tc_A tcx G s.heap.size)) 0 0 u 56 [some (.ref (tc_ad G 56)), some (.int (nI i)), some (.int (nI r)), some (.int (u 57 (16 + i)))] [] := by
    intro hA hB
    refine tv_iload_n (pc := 56) dD_uses_56 (by rfl) ?_
    refine tv_iconst (v := 2) (pc := 57) dD_uses_57 (by decide) ?_
    refine tv_icmp_ne (pc := 58) 78 dD_uses_58 (by decide) (fun h58 => ?_) (fun h58 => ?_)
    · skip
      first
      | (have hc : ¬ u 57 (16 + i) = 2 := (by assumption)
         exact t78 (fun q => q.elim hA (fun q => q.elim hB (fun q => hc q.1))))
      | (have hc : ¬ u 60 (16 + i) = nI r := (by assumption)
         exact t78 (fun q => q.elim hA (fun q => q.elim hB (fun q => hc q.2))))
    · skip
      refine tv_aload_n (pc := 61) dD_uses_61 (by rfl) ?_
      refine tv_getR (pc := 62) 5 tb_56 (by rfl) uwD_ (by decide) wm_667 (by rfl) dD_uses_62 ?_
      refine tv_bipush (v := 16) (pc := 65) dD_uses_65 (by decide) ?_
      refine tv_iload_n (pc := 67) dD_uses_67 (by rfl) ?_
      refine tv_iadd (pc := 68) dD_uses_68 ?_
      refine tv_iald (pc := 69) tb_60 (by assumption) dD_uses_69 ?_
      refine tv_iload_n (pc := 70) dD_uses_70 (by rfl) ?_
      refine tv_icmp_ne (pc := 71) 78 dD_uses_71 (by decide) (fun h71 => ?_) (fun h71 => ?_)
      · skip
        first
        | (have hc : ¬ u 57 (16 + i) = 2 := (by assumption)
           exact t78 (fun q => q.elim hA (fun q => q.elim hB (fun q => hc q.1))))
        | (have hc : ¬ u 60 (16 + i) = nI r := (by assumption)
           exact t78 (fun q => q.elim hA (fun q => q.elim hB (fun q => hc q.2))))
      · skip
        exact t74 (Or.inr (Or.inr ⟨by assumption, by assumption⟩))
  have t33 : ¬ ((u 57 (16 + i) = 3 ∨ u 57 (16 + i) = 4) ∧ u 58 (16 + i) = nI r) → tc_V tcx G p l e r0D_uses s m args below meth c bD_uses 4 tw "TracedCodeModel" (some .boolean) [] (MQ below (tc_Qc tcx G (tc_Ki (tp_b (((u 57 (16 + i) = 3 ∨ u 57 (16 + i) = 4) ∧ u 58 (16 + i) = nI r) ∨ ((u 57 (16 + i) = 1 ∨ u 57 (16 + i) = 2) ∧ u 59 (16 + i) = nI r) ∨ (u 57 (16 + i) = 2 ∧ u 60 (16 + i) = nI r))) u) s.heap.size) args s 0 0 (tc_A tcx G s.heap.size)) 0 0 u 33 [some (.ref (tc_ad G 56)), some (.int (nI i)), some (.int (nI r)), some (.int (u 57 (16 + i)))] [] := by
    intro hA
    refine tv_iload_n (pc := 33) dD_uses_33 (by rfl) ?_
    refine tv_iconst (v := 1) (pc := 34) dD_uses_34 (by decide) ?_
    refine tv_icmp_eq (pc := 35) 43 dD_uses_35 (by decide) (fun h35 => ?_) (fun h35 => ?_)
    · skip
      refine tv_aload_n (pc := 43) dD_uses_43 (by rfl) ?_
      refine tv_getR (pc := 44) 4 tb_56 (by rfl) uwD_ (by decide) wm_666 (by rfl) dD_uses_44 ?_
      refine tv_bipush (v := 16) (pc := 47) dD_uses_47 (by decide) ?_
      refine tv_iload_n (pc := 49) dD_uses_49 (by rfl) ?_
      refine tv_iadd (pc := 50) dD_uses_50 ?_
      refine tv_iald (pc := 51) tb_59 (by assumption) dD_uses_51 ?_
      refine tv_iload_n (pc := 52) dD_uses_52 (by rfl) ?_
      refine tv_icmp_eq (pc := 53) 74 dD_uses_53 (by decide) (fun h53 => ?_) (fun h53 => ?_)
      · skip
        first
        | exact t74 (Or.inr (Or.inl ⟨Or.inl (by assumption), by assumption⟩))
        | exact t74 (Or.inr (Or.inl ⟨Or.inr (by assumption), by assumption⟩))
      · skip
        first
        | (have hc : ¬ u 59 (16 + i) = nI r := (by assumption)
           exact t56 hA (fun q => hc q.2))
        | (have hc : ¬ u 57 (16 + i) = 1 := (by assumption)
           have hd : ¬ u 57 (16 + i) = 2 := (by assumption)
           exact t56 hA (fun q => q.1.elim hc hd))
    · skip
      refine tv_iload_n (pc := 38) dD_uses_38 (by rfl) ?_
      refine tv_iconst (v := 2) (pc := 39) dD_uses_39 (by decide) ?_
      refine tv_icmp_ne (pc := 40) 56 dD_uses_40 (by decide) (fun h40 => ?_) (fun h40 => ?_)
      · skip
        first
        | (have hc : ¬ u 59 (16 + i) = nI r := (by assumption)
           exact t56 hA (fun q => hc q.2))
        | (have hc : ¬ u 57 (16 + i) = 1 := (by assumption)
           have hd : ¬ u 57 (16 + i) = 2 := (by assumption)
           exact t56 hA (fun q => q.1.elim hc hd))
      · skip
        refine tv_aload_n (pc := 43) dD_uses_43 (by rfl) ?_
        refine tv_getR (pc := 44) 4 tb_56 (by rfl) uwD_ (by decide) wm_666 (by rfl) dD_uses_44 ?_
        refine tv_bipush (v := 16) (pc := 47) dD_uses_47 (by decide) ?_
        refine tv_iload_n (pc := 49) dD_uses_49 (by rfl) ?_
        refine tv_iadd (pc := 50) dD_uses_50 ?_
        refine tv_iald (pc := 51) tb_59 (by assumption) dD_uses_51 ?_
        refine tv_iload_n (pc := 52) dD_uses_52 (by rfl) ?_
        refine tv_icmp_eq (pc := 53) 74 dD_uses_53 (by decide) (fun h53 => ?_) (fun h53 => ?_)
        · skip
          first
          | exact t74 (Or.inr (Or.inl ⟨Or.inl (by assumption), by assumption⟩))
          | exact t74 (Or.inr (Or.inl ⟨Or.inr (by assumption), by assumption⟩))
        · skip
          first
          | (have hc : ¬ u 59 (16 + i) = nI r := (by assumption)
             exact t56 hA (fun q => hc q.2))
          | (have hc : ¬ u 57 (16 + i) = 1 := (by assumption)
             have hd : ¬ u 57 (16 + i) = 2 := (by assumption)
             exact t56 hA (fun q => q.1.elim hc hd))
  refine tv_aload_n (pc := 0) dD_uses_0 (by rfl) ?_
  refine tv_getR (pc := 1) 2 tb_56 (by rfl) uwD_ (by decide) wm_664 (by rfl) dD_uses_1 ?_
  refine tv_bipush (v := 16) (pc := 4) dD_uses_4 (by decide) ?_
  refine tv_iload_n (pc := 6) dD_uses_6 (by rfl) ?_
  refine tv_iadd (pc := 7) dD_uses_7 ?_
  refine tv_iald (pc := 8) tb_57 (by assumption) dD_uses_8 ?_
  refine tv_istore3 (pc := 9) dD_uses_9 (by rfl) ?_
  refine tv_iload_n (pc := 10) dD_uses_10 (by rfl) ?_
  refine tv_iconst (v := 3) (pc := 11) dD_uses_11 (by decide) ?_
  refine tv_icmp_eq (pc := 12) 20 dD_uses_12 (by decide) (fun h12 => ?_) (fun h12 => ?_)
  · skip
    refine tv_aload_n (pc := 20) dD_uses_20 (by rfl) ?_
    refine tv_getR (pc := 21) 3 tb_56 (by rfl) uwD_ (by decide) wm_665 (by rfl) dD_uses_21 ?_
    refine tv_bipush (v := 16) (pc := 24) dD_uses_24 (by decide) ?_
    refine tv_iload_n (pc := 26) dD_uses_26 (by rfl) ?_
    refine tv_iadd (pc := 27) dD_uses_27 ?_
    refine tv_iald (pc := 28) tb_58 (by assumption) dD_uses_28 ?_
    refine tv_iload_n (pc := 29) dD_uses_29 (by rfl) ?_
    refine tv_icmp_eq (pc := 30) 74 dD_uses_30 (by decide) (fun h30 => ?_) (fun h30 => ?_)
    · skip
      first
      | exact t74 (Or.inl ⟨Or.inl (by assumption), by assumption⟩)
      | exact t74 (Or.inl ⟨Or.inr (by assumption), by assumption⟩)
    · skip
      first
      | (have hc : ¬ u 58 (16 + i) = nI r := (by assumption)
         exact t33 (fun q => hc q.2))
      | (have hc : ¬ u 57 (16 + i) = 3 := (by assumption)
         have hd : ¬ u 57 (16 + i) = 4 := (by assumption)
         exact t33 (fun q => q.1.elim hc hd))
  · skip
    refine tv_iload_n (pc := 15) dD_uses_15 (by rfl) ?_
    refine tv_iconst (v := 4) (pc := 16) dD_uses_16 (by decide) ?_
    refine tv_icmp_ne (pc := 17) 33 dD_uses_17 (by decide) (fun h17 => ?_) (fun h17 => ?_)
    · skip
      first
      | (have hc : ¬ u 58 (16 + i) = nI r := (by assumption)
         exact t33 (fun q => hc q.2))
      | (have hc : ¬ u 57 (16 + i) = 3 := (by assumption)
         have hd : ¬ u 57 (16 + i) = 4 := (by assumption)
         exact t33 (fun q => q.1.elim hc hd))
    · skip
      refine tv_aload_n (pc := 20) dD_uses_20 (by rfl) ?_
      refine tv_getR (pc := 21) 3 tb_56 (by rfl) uwD_ (by decide) wm_665 (by rfl) dD_uses_21 ?_
      refine tv_bipush (v := 16) (pc := 24) dD_uses_24 (by decide) ?_
      refine tv_iload_n (pc := 26) dD_uses_26 (by rfl) ?_
      refine tv_iadd (pc := 27) dD_uses_27 ?_
      refine tv_iald (pc := 28) tb_58 (by assumption) dD_uses_28 ?_
      refine tv_iload_n (pc := 29) dD_uses_29 (by rfl) ?_
      refine tv_icmp_eq (pc := 30) 74 dD_uses_30 (by decide) (fun h30 => ?_) (fun h30 => ?_)
      · skip
        first
        | exact t74 (Or.inl ⟨Or.inl (by assumption), by assumption⟩)
        | exact t74 (Or.inl ⟨Or.inr (by assumption), by assumption⟩)
      · skip
        first
        | (have hc : ¬ u 58 (16 + i) = nI r := (by assumption)
           exact t33 (fun q => hc q.2))
        | (have hc : ¬ u 57 (16 + i) = 3 := (by assumption)
           have hd : ¬ u 57 (16 + i) = 4 := (by assumption)
           exact t33 (fun q => q.1.elim hc hd))
def sd_me (i : Nat) (u : tc_S) : tc_S := tc_up (tc_up (tc_up (tc_up u 57 (16 + i) (-1)) 58 (16 + i) 0) 59 (16 + i) 0) 60 (16 + i) 0
set_option maxRecDepth 100000 in
set_option maxHeartbeats 4000000 in
theorem c_D_empty (l : Launch) (G : tc_G) (u : tc_S) {i : Nat} (hi : i < 16) : tc_C tcx G l yD_empty wD_empty r0D_empty 0 0 [.ref (tc_ad G 56), .int (nI i)] u (tc_Kv (sd_me i u)) := by
  refine tw_ofV (own := "TracedCodeModel") [some (.ref (tc_ad G 56)), some (.int (nI i))] (by decide +kernel) rfl (Nat.le_of_ble_eq_true rfl) (by rfl) (fun p e s m args below meth c => ?_)
  have i32 : tc_ix (16 + nI i) 32 (16 + i) := ix16 hi
  refine tv_aload_n (pc := 0) dD_empty_0 (by rfl) ?_
  refine tv_getR (pc := 1) 2 tb_56 (by rfl) uwD_ (by decide) wm_664 (by rfl) dD_empty_1 ?_
  refine tv_bipush (v := 16) (pc := 4) dD_empty_4 (by decide) ?_
  refine tv_iload_n (pc := 6) dD_empty_6 (by rfl) ?_
  refine tv_iadd (pc := 7) dD_empty_7 ?_
  refine tv_iconst (v := (-1)) (pc := 8) dD_empty_8 (by decide) ?_
  refine tv_iast (pc := 9) tb_57 (by assumption) dD_empty_9 ?_
  refine tv_aload_n (pc := 10) dD_empty_10 (by rfl) ?_
  refine tv_getR (pc := 11) 3 tb_56 (by rfl) uwD_ (by decide) wm_665 (by rfl) dD_empty_11 ?_
  refine tv_bipush (v := 16) (pc := 14) dD_empty_14 (by decide) ?_
  refine tv_iload_n (pc := 16) dD_empty_16 (by rfl) ?_
  refine tv_iadd (pc := 17) dD_empty_17 ?_
  refine tv_iconst (v := 0) (pc := 18) dD_empty_18 (by decide) ?_
  refine tv_iast (pc := 19) tb_58 (by assumption) dD_empty_19 ?_
  refine tv_aload_n (pc := 20) dD_empty_20 (by rfl) ?_
  refine tv_getR (pc := 21) 4 tb_56 (by rfl) uwD_ (by decide) wm_666 (by rfl) dD_empty_21 ?_
  refine tv_bipush (v := 16) (pc := 24) dD_empty_24 (by decide) ?_
  refine tv_iload_n (pc := 26) dD_empty_26 (by rfl) ?_
  refine tv_iadd (pc := 27) dD_empty_27 ?_
  refine tv_iconst (v := 0) (pc := 28) dD_empty_28 (by decide) ?_
  refine tv_iast (pc := 29) tb_59 (by assumption) dD_empty_29 ?_
  refine tv_aload_n (pc := 30) dD_empty_30 (by rfl) ?_
  refine tv_getR (pc := 31) 5 tb_56 (by rfl) uwD_ (by decide) wm_667 (by rfl) dD_empty_31 ?_
  refine tv_bipush (v := 16) (pc := 34) dD_empty_34 (by decide) ?_
  refine tv_iload_n (pc := 36) dD_empty_36 (by rfl) ?_
  refine tv_iadd (pc := 37) dD_empty_37 ?_
  refine tv_iconst (v := 0) (pc := 38) dD_empty_38 (by decide) ?_
  refine tv_iast (pc := 39) tb_60 (by assumption) dD_empty_39 ?_
  exact tv_vret (pc := 40) dD_empty_40 rfl (Nat.le_refl _) (Nat.le_refl _) ⟨rfl, rfl⟩
/-- every point is reached -/
def rc_suc (n : Nat) (P : tp_P) (x y : Nat) : Prop := x < n ∧ (y = x + 1 ∨ y = tp_tg n P x)
theorem rc_all {n : Nat} {P : tp_P} : ∀ x, x ≤ n → df_R (fun x => x = 0) (rc_suc n P) x
  | 0, _ => df_R_st rfl
  | x + 1, h => df_R_suc (rc_all x (by omega)) ⟨by omega, Or.inl rfl⟩
def rc_F (u v : tc_S) : Prop := (∀ q, q ≠ 56 → q ≠ 65 → q ≠ 66 → q ≠ 67 → v q = u q) ∧ ∀ j, j ≠ 14 → v 56 j = u 56 j
set_option maxRecDepth 100000 in
set_option maxHeartbeats 4000000 in
theorem c_D_reach (l : Launch) (G : tc_G) (u : tc_S) {n : Nat} (hs : u 56 1 = nI n) (hn : n ≤ 16) (hP : ∀ i, i < n → tp_line (pm u 0) i) : tc_C tcx G l yD_reach wD_reach r0D_reach 0 0 [.ref (tc_ad G 56)] u (tc_KV (fun v => rc_F u v ∧ ∀ x, x ≤ n → v 65 x = 1)) := by
  refine tw_ofV (own := "TracedCodeModel") [some (.ref (tc_ad G 56)), none] (by decide +kernel) rfl (Nat.le_of_ble_eq_true rfl) (by rfl) (fun p e s m args below meth c => ?_)
  have last : ∀ v : tc_S, df_F u v → (∀ x, x ≤ n → v 66 x = 1) → (∀ x, x < 34 → v 66 x = 0 ∨ v 66 x = 1) → tc_V tcx G p l e r0D_reach s m args below meth c bD_reach 2 tw "TracedCodeModel" none [] (MQ below (tc_Qc tcx G (tc_KV (fun v => rc_F u v ∧ ∀ x, x ≤ n → v 65 x = 1)) s.heap.size) args s 0 0 (tc_A tcx G s.heap.size)) 0 0 v 65 [some (.ref (tc_ad G 56)), some (.int (nI 0))] [] := by
    intro v hF hm hz
    have z0 : tc_V tcx G p l e r0D_reach s m args below meth c bD_reach 2 tw "TracedCodeModel" none [] (MQ below (tc_Qc tcx G (tc_KV (fun v => rc_F u v ∧ ∀ x, x ≤ n → v 65 x = 1)) s.heap.size) args s 0 0 (tc_A tcx G s.heap.size)) 0 0 (tc_row v 65 (fun j => v 66 j) 0) 65 [some (.ref (tc_ad G 56)), some (.int (nI 0))] [] := by
      refine tv_down (P := fun i => tc_V tcx G p l e r0D_reach s m args below meth c bD_reach 2 tw "TracedCodeModel" none [] (MQ below (tc_Qc tcx G (tc_KV (fun v => rc_F u v ∧ ∀ x, x ≤ n → v 65 x = 1)) s.heap.size) args s 0 0 (tc_A tcx G s.heap.size)) 0 0 (tc_row v 65 (fun j => v 66 j) i) 65 [some (.ref (tc_ad G 56)), some (.int (nI i))] []) 17 ?_ ?_
      · skip
        refine tv_iload_n (pc := 65) dD_reach_65 (by rfl) ?_
        refine tv_bipush (v := 17) (pc := 66) dD_reach_66 (by decide) ?_
        refine tv_icmp_ge (pc := 68) 89 dD_reach_68 (by decide) (fun _ => ?_) (fun h => absurd (by decide) h)
        exact tv_vret (pc := 89) dD_reach_89 rfl (Nat.le_refl _) (Nat.le_refl _) (by refine ⟨rfl, ⟨fun q h1 h2 h3 h4 => ?_, fun j hj => ?_⟩, fun x hx => ?_⟩ <;> first | (rw [tc_row_ne (by decide)]; exact hF.2 _ hj) | (rw [tc_row_in (by omega)]; exact hm _ hx) | (rw [tc_row_ne h2]; exact hF.1 _ h1 h3 h4))
      · intro i hiN ih
        have hi17 : tc_ix (nI i) 17 i := tc_ixN hiN (by decide)
        have hi34 : tc_ix (nI i) 34 i := tc_ixN (by omega) (by decide)
        rw [← tc_row_s (i := i) (f := fun j => v 66 j), ← nI_1] at ih
        have e66 : tc_row v 65 (fun j => v 66 j) i 66 i = v 66 i := by rw [tc_row_ne (by decide)]
        have ez : narrow .boolean (.int (v 66 i)) = .int (v 66 i) := by rcases hz i (by omega) with q | q <;> rw [q] <;> rfl
        have ez2 : vp_nar .boolean (v 66 i) = v 66 i := by rcases hz i (by omega) with q | q <;> rw [q] <;> rfl
        refine tv_iload_n (pc := 65) dD_reach_65 (by rfl) ?_
        refine tv_bipush (v := 17) (pc := 66) dD_reach_66 (by decide) ?_
        refine tv_icmp_ge (pc := 68) 89 dD_reach_68 (by decide) (fun h => absurd h (nI_ge (b := 17) hiN (by decide))) (fun _ => ?_)
        refine tv_aload_n (pc := 71) dD_reach_71 (by rfl) ?_
        refine tv_getR (pc := 72) 11 tb_56 (by rfl) uwD_ (by decide) wm_673 (by rfl) dD_reach_72 ?_
        refine tv_iload_n (pc := 75) dD_reach_75 (by rfl) ?_
        refine tv_aload_n (pc := 76) dD_reach_76 (by rfl) ?_
        refine tv_getR (pc := 77) 12 tb_56 (by rfl) uwD_ (by decide) wm_674 (by rfl) dD_reach_77 ?_
        refine tv_iload_n (pc := 80) dD_reach_80 (by rfl) ?_
        refine tv_zald (pc := 81) tb_66 hi34 dD_reach_81 ?_
        rw [e66]
        refine tv_zast (pc := 82) tb_65 hi17 ez2 dD_reach_82 ?_
        refine tv_iinc1 (v := 1) (pc := 83) dD_reach_83 (by decide) (by rfl) ?_
        refine tv_goto (pc := 86) 65 dD_reach_86 (by decide) ?_
        exact ih
    rw [tc_row_0] at z0
    exact z0
  have loop : ∀ (M k : Nat) (v : tc_S) (lx : Option Value), df_F u v → df_I (fun x => x = 0) (rc_suc n (pm u 0)) (fun _ => True) k v → 2 * df_Z v 34 + k < M → tc_V tcx G p l e r0D_reach s m args below meth c bD_reach 2 tw "TracedCodeModel" none [] (MQ below (tc_Qc tcx G (tc_KV (fun v => rc_F u v ∧ ∀ x, x ≤ n → v 65 x = 1)) s.heap.size) args s 0 0 (tc_A tcx G s.heap.size)) 0 0 v 9 [some (.ref (tc_ad G 56)), lx] [] := by
    intro M
    induction M with
    | zero => intro k v lx _ _ h; omega
    | succ M ih =>
      intro k v lx hF hI hM
      have hk : v 56 14 = nI k := hI.1.1
      have hv1 : v 56 1 = nI n := by rw [hF.2 1 (by decide)]; exact hs
      cases k with
      | zero =>
        refine tv_aload_n (pc := 9) dD_reach_9 (by rfl) ?_
        refine tv_getI (pc := 10) 14 tb_56 (by rfl) uwD_ (by decide) wm_676 (by rfl) dD_reach_10 ?_
        refine tv_if_le (pc := 13) 63 dD_reach_13 (by decide) (fun _ => ?_) (fun h => absurd (by rw [hk]; decide) h)
        refine tv_iconst (v := 0) (pc := 63) dD_reach_63 (by decide) ?_
        refine tv_istore1 (pc := 64) dD_reach_64 (by rfl) ?_
        refine last v hF (fun x hx => ?_) hI.1.2.2.1
        exact (df_end hI (fun x y hx hy => by obtain ⟨h1, e | e⟩ := hy <;> have := tp_tg_le (P := pm u 0) h1 <;> omega) (fun x hx => by omega) (by omega)).mpr (rc_all x hx)
      | succ k =>
        obtain ⟨x, hx, ew, em, er, hJ, hk34, hz⟩ := df_pop hI
        have ik : tc_ix (nI k) 34 k := tc_ixN hk34 (by decide)
        have e67 : (tc_up v 56 14 (nI k)) 67 k = nI x := by rw [tc_up_ne (by decide)]; exact ew
        have el : (tc_up v 56 14 (nI k)) 56 1 = nI n := by rw [tc_up_at (by decide)]; exact hv1
        have hF1 : df_F u (tc_up v 56 14 (nI k)) := hF.tr df_F_left
        by_cases hxn : x < n
        · have hx16 : x < 16 := by omega
          have hl := hP x hxn
          have tle := tp_tg_le (P := pm u 0) hxn
          obtain ⟨k1, k2, a1, a2, a3, a4, a5, a6⟩ := df_two (a := x + 1) (b := tp_tg n (pm u 0) x) hJ (by omega) (by omega) (df_R_suc er ⟨hxn, Or.inl rfl⟩) (df_R_suc er ⟨hxn, Or.inr rfl⟩) trivial (fun y hy => hy.2) (fun y hy => Or.inl (by rw [tc_up_ne (by decide)]; exact hI.2 y hy))
          have t1 := c_D_targetOf l G (sd_meet (x + 1) k (tc_up v 56 14 (nI k))) (n := n) (i := x) (by rw [df_F_meet.2 1 (by decide)]; exact el) hn hx16 (by rw [df_pm df_F_meet, df_pm hF1]; exact hl.2.2.2.1)
          rw [df_pm df_F_meet, df_pm hF1] at t1
          refine tv_aload_n (pc := 9) dD_reach_9 (by rfl) ?_
          refine tv_getI (pc := 10) 14 tb_56 (by rfl) uwD_ (by decide) wm_676 (by rfl) dD_reach_10 ?_
          refine tv_if_le (pc := 13) 63 dD_reach_13 (by decide) (fun h => absurd h (by rw [hk]; exact nI_nle (by omega) (by omega))) (fun _ => ?_)
          refine tv_aload_n (pc := 16) dD_reach_16 (by rfl) ?_
          refine tv_dup (pc := 17) dD_reach_17 (by rfl) ?_
          refine tv_getI (pc := 18) 14 tb_56 (by rfl) uwD_ (by decide) wm_676 (by rfl) dD_reach_18 ?_
          rw [hk]
          refine tv_iconst (v := 1) (pc := 21) dD_reach_21 (by decide) ?_
          refine tv_isub (pc := 22) dD_reach_22 ?_
          rw [nI_pred]
          refine tv_putI (ty := .int) (pc := 23) 14 tyD_ tb_56 (by rfl) uwD_ (by decide) wm_676 okD_ nmD_ (by rfl) (by decide +kernel) (by rfl) (by rfl) (by rfl) dD_reach_23 ?_
          refine tv_aload_n (pc := 26) dD_reach_26 (by rfl) ?_
          refine tv_getR (pc := 27) 13 tb_56 (by rfl) uwD_ (by decide) wm_675 (by rfl) dD_reach_27 ?_
          refine tv_aload_n (pc := 30) dD_reach_30 (by rfl) ?_
          refine tv_getI (pc := 31) 14 tb_56 (by rfl) uwD_ (by decide) wm_676 (by rfl) dD_reach_31 ?_
          rw [tc_up_self]
          refine tv_iald (pc := 34) tb_67 (by assumption) dD_reach_34 ?_
          rw [e67]
          refine tv_istore1 (pc := 35) dD_reach_35 (by rfl) ?_
          refine tv_iload_n (pc := 36) dD_reach_36 (by rfl) ?_
          refine tv_aload_n (pc := 37) dD_reach_37 (by rfl) ?_
          refine tv_getI (pc := 38) 1 tb_56 (by rfl) uwD_ (by decide) wm_663 (by rfl) dD_reach_38 ?_
          refine tv_icmp_ge (pc := 41) 60 dD_reach_41 (by decide) (fun h => absurd h (by rw [el]; exact nI_ge hxn (by omega))) (fun _ => ?_)
          refine tv_aload_n (pc := 44) dD_reach_44 (by rfl) ?_
          refine tv_iload_n (pc := 45) dD_reach_45 (by rfl) ?_
          refine tv_iconst (v := 1) (pc := 46) dD_reach_46 (by decide) ?_
          refine tv_iadd (pc := 47) dD_reach_47 ?_
          rw [nI_1]
          refine tv_callVv (pc := 48) [_] tb_56 (by rfl) (c_D_meet l G _ (x := x + 1) (k := k) (by omega) tc_up_self a2) (kVD_meet wm_795 ⟨by decide, by decide⟩) (by rfl) (Nat.le_of_ble_eq_true rfl) dD_reach_48 ⟨by decide, by decide⟩ ?_
          refine tv_aload_n (pc := 51) dD_reach_51 (by rfl) ?_
          refine tv_aload_n (pc := 52) dD_reach_52 (by rfl) ?_
          refine tv_iload_n (pc := 53) dD_reach_53 (by rfl) ?_
          refine tv_callVi (pc := 54) [_] tb_56 (by rfl) t1 (kVD_targetOf wm_799 ⟨by decide, by decide⟩) (by rfl) (Nat.le_of_ble_eq_true rfl) dD_reach_54 ⟨by decide, by decide⟩ ?_
          refine tv_callVv (pc := 57) [_] tb_56 (by rfl) (c_D_meet l G _ (x := tp_tg n (pm u 0) x) (k := k1) (by omega) a1 a3) (kVD_meet wm_795 ⟨by decide, by decide⟩) (by rfl) (Nat.le_of_ble_eq_true rfl) dD_reach_57 ⟨by decide, by decide⟩ ?_
          refine tv_goto (pc := 60) 9 dD_reach_60 (by decide) ?_
          exact ih k2 _ _ (hF1.tr a5) a4 (by omega)
        · have hI2 := df_close hJ trivial (fun y hy => absurd hy.1 hxn) (fun y hy => by rw [tc_up_ne (by decide)]; exact hI.2 y hy)
          refine tv_aload_n (pc := 9) dD_reach_9 (by rfl) ?_
          refine tv_getI (pc := 10) 14 tb_56 (by rfl) uwD_ (by decide) wm_676 (by rfl) dD_reach_10 ?_
          refine tv_if_le (pc := 13) 63 dD_reach_13 (by decide) (fun h => absurd h (by rw [hk]; exact nI_nle (by omega) (by omega))) (fun _ => ?_)
          refine tv_aload_n (pc := 16) dD_reach_16 (by rfl) ?_
          refine tv_dup (pc := 17) dD_reach_17 (by rfl) ?_
          refine tv_getI (pc := 18) 14 tb_56 (by rfl) uwD_ (by decide) wm_676 (by rfl) dD_reach_18 ?_
          rw [hk]
          refine tv_iconst (v := 1) (pc := 21) dD_reach_21 (by decide) ?_
          refine tv_isub (pc := 22) dD_reach_22 ?_
          rw [nI_pred]
          refine tv_putI (ty := .int) (pc := 23) 14 tyD_ tb_56 (by rfl) uwD_ (by decide) wm_676 okD_ nmD_ (by rfl) (by decide +kernel) (by rfl) (by rfl) (by rfl) dD_reach_23 ?_
          refine tv_aload_n (pc := 26) dD_reach_26 (by rfl) ?_
          refine tv_getR (pc := 27) 13 tb_56 (by rfl) uwD_ (by decide) wm_675 (by rfl) dD_reach_27 ?_
          refine tv_aload_n (pc := 30) dD_reach_30 (by rfl) ?_
          refine tv_getI (pc := 31) 14 tb_56 (by rfl) uwD_ (by decide) wm_676 (by rfl) dD_reach_31 ?_
          rw [tc_up_self]
          refine tv_iald (pc := 34) tb_67 (by assumption) dD_reach_34 ?_
          rw [e67]
          refine tv_istore1 (pc := 35) dD_reach_35 (by rfl) ?_
          refine tv_iload_n (pc := 36) dD_reach_36 (by rfl) ?_
          refine tv_aload_n (pc := 37) dD_reach_37 (by rfl) ?_
          refine tv_getI (pc := 38) 1 tb_56 (by rfl) uwD_ (by decide) wm_663 (by rfl) dD_reach_38 ?_
          refine tv_icmp_ge (pc := 41) 60 dD_reach_41 (by decide) (fun _ => ?_) (fun h => absurd (by rw [el]; exact nI_le (by omega) (by omega)) h)
          refine tv_goto (pc := 60) 9 dD_reach_60 (by decide) ?_
          exact ih k _ _ hF1 hI2 (by omega)
  have hJ0 := df_start (st := (fun x => x = 0)) (suc := (rc_suc n (pm u 0))) (ok := fun _ => True) (u := u)
  obtain ⟨k', j1, m1, n1, z1⟩ := df_meet (x := 0) hJ0 (by omega) (df_R_st rfl)
  have hI0 := df_close j1 trivial (fun y hy => absurd hy.1 (by omega)) (fun y hy => by rw [hy]; exact m1)
  refine tv_aload_n (pc := 0) dD_reach_0 (by rfl) ?_
  refine tv_callVv (pc := 1) [] tb_56 (by rfl) (c_D_forget l G u) (kVD_forget wm_791 ⟨by decide, by decide⟩) (by rfl) (Nat.le_of_ble_eq_true rfl) dD_reach_1 ⟨by decide, by decide⟩ ?_
  refine tv_aload_n (pc := 4) dD_reach_4 (by rfl) ?_
  refine tv_iconst (v := 0) (pc := 5) dD_reach_5 (by decide) ?_
  refine tv_callVv (pc := 6) [_] tb_56 (by rfl) (c_D_meet l G _ (x := 0) (k := 0) (by omega) hJ0.1 (fun _ => by omega)) (kVD_meet wm_795 ⟨by decide, by decide⟩) (by rfl) (Nat.le_of_ble_eq_true rfl) dD_reach_6 ⟨by decide, by decide⟩ ?_
  exact loop _ k' _ _ (df_F_forget.tr df_F_meet) hI0 (Nat.lt_succ_self _)
