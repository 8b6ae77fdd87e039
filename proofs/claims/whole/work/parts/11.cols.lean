/-! loops that count up; columns and rows written by them -/
theorem tv_down {P : Nat → Prop} (N : Nat) (hN : P N) (hs : ∀ i, i < N → P (i + 1) → P i) : P 0 := by
  have key : ∀ d i, i + d = N → P i := by
    intro d
    induction d with
    | zero => intro i h; have e : i = N := by omega
              rw [e]; exact hN
    | succ d ih => intro i h; exact hs i (by omega) (ih (i + 1) (by omega))
  exact key N 0 (by omega)
/-- the first i of the rows from b on have f at the place pt -/
def tc_col (u : tc_S) (b pt : Nat) (f : Nat → Int32) (i : Nat) : tc_S := fun q => if b ≤ q ∧ q < b + i then upd (u q) pt (f (q - b)) else u q
theorem tc_col_0 {u : tc_S} {b pt : Nat} {f : Nat → Int32} : tc_col u b pt f 0 = u := by
  funext q; unfold tc_col; rw [if_neg (by omega)]
theorem tc_col_out {u : tc_S} {b pt : Nat} {f : Nat → Int32} {i q : Nat} (h : q < b ∨ b + i ≤ q) : tc_col u b pt f i q = u q := by
  unfold tc_col; rw [if_neg (by omega)]
theorem tc_col_in {u : tc_S} {b pt : Nat} {f : Nat → Int32} {i r : Nat} (h : r < i) : tc_col u b pt f i (b + r) = upd (u (b + r)) pt (f r) := by
  unfold tc_col; rw [if_pos (by omega), show b + r - b = r by omega]
theorem tc_col_s {u : tc_S} {b pt : Nat} {f : Nat → Int32} {i : Nat} : tc_up (tc_col u b pt f i) (b + i) pt (f i) = tc_col u b pt f (i + 1) := by
  funext q
  by_cases e : q = b + i
  · subst e
    rw [tc_up_eq, tc_col_out (by omega), tc_col_in (by omega)]
  · rw [tc_up_ne e]
    unfold tc_col
    by_cases h : b ≤ q ∧ q < b + i
    · rw [if_pos h, if_pos (by omega)]
    · rw [if_neg h, if_neg (by omega)]
theorem upd_id {f : Nat → Int32} {k : Nat} {x : Int32} (h : f k = x) : upd f k x = f := by
  funext j; unfold upd; split
  · next e => rw [e, h]
  · rfl
theorem tc_col_same {u : tc_S} {b pt : Nat} {f : Nat → Int32} {i : Nat} (h : u (b + i) pt = f i) : tc_col u b pt f (i + 1) = tc_col u b pt f i := by
  rw [← tc_col_s]
  funext q
  by_cases e : q = b + i
  · subst e
    rw [tc_up_eq, tc_col_out (by omega), upd_id h]
  · rw [tc_up_ne e]
/-- the first i places of the row be are f's -/
def tc_row (u : tc_S) (be : Nat) (f : Nat → Int32) (i : Nat) : tc_S := fun q => if q = be then (fun j => if j < i then f j else u be j) else u q
theorem tc_row_0 {u : tc_S} {be : Nat} {f : Nat → Int32} : tc_row u be f 0 = u := by
  funext q; unfold tc_row
  by_cases e : q = be
  · rw [if_pos e, e]; funext j; rw [if_neg (by omega)]
  · rw [if_neg e]
theorem tc_row_ne {u : tc_S} {be q : Nat} {f : Nat → Int32} {i : Nat} (h : q ≠ be) : tc_row u be f i q = u q := by
  unfold tc_row; rw [if_neg h]
theorem tc_row_in {u : tc_S} {be : Nat} {f : Nat → Int32} {i j : Nat} (h : j < i) : tc_row u be f i be j = f j := by
  unfold tc_row; rw [if_pos rfl, if_pos h]
theorem tc_row_out {u : tc_S} {be : Nat} {f : Nat → Int32} {i j : Nat} (h : i ≤ j) : tc_row u be f i be j = u be j := by
  unfold tc_row; rw [if_pos rfl, if_neg (by omega)]
theorem tc_row_s {u : tc_S} {be : Nat} {f : Nat → Int32} {i : Nat} : tc_up (tc_row u be f i) be i (f i) = tc_row u be f (i + 1) := by
  funext q
  by_cases e : q = be
  · subst e
    rw [tc_up_eq]
    funext j
    unfold upd
    by_cases hj : j = i
    · rw [if_pos hj, hj, tc_row_in (by omega)]
    · rw [if_neg hj]
      by_cases hl : j < i
      · rw [tc_row_in hl, tc_row_in (by omega)]
      · rw [tc_row_out (by omega), tc_row_out (by omega)]
  · rw [tc_up_ne e, tc_row_ne e, tc_row_ne e]
theorem tc_row_up {u : tc_S} {be a N : Nat} {f : Nat → Int32} {x : Int32} (h : a < N) : tc_up (tc_row u be f N) be a x = tc_row u be (fun j => if j = a then x else f j) N := by
  funext q
  by_cases e : q = be
  · subst e
    rw [tc_up_eq]
    funext j
    unfold upd
    by_cases hj : j = a
    · subst hj
      rw [if_pos rfl, tc_row_in h, if_pos rfl]
    · rw [if_neg hj]
      by_cases hl : j < N
      · rw [tc_row_in hl, tc_row_in hl, if_neg hj]
      · rw [tc_row_out (by omega), tc_row_out (by omega)]
  · rw [tc_up_ne e, tc_row_ne e, tc_row_ne e]
theorem tp_b_ex {p : Nat → Prop} {i : Nat} (h : p i) : tp_b (∃ r, r < i + 1 ∧ p r) = 1 := tp_b_t ⟨i, by omega, h⟩
theorem tp_b_ns {p : Nat → Prop} {i : Nat} (h : ¬ p i) : tp_b (∃ r, r < i + 1 ∧ p r) = tp_b (∃ r, r < i ∧ p r) := tp_b_iff ⟨fun ⟨r, hr, q⟩ => by
  by_cases e : r = i
  · subst e; exact absurd q h
  · exact ⟨r, by omega, q⟩, fun ⟨r, hr, q⟩ => ⟨r, by omega, q⟩⟩
theorem tp_b_0 {p : Nat → Prop} : tp_b (∃ r, r < 0 ∧ p r) = 0 := tp_b_f (fun ⟨_, h, _⟩ => absurd h (Nat.not_lt_zero _))
theorem nI_lt6 {i : Nat} (h : i < 6) : ¬ (6 : Int32) ≤ nI i := by rw [show (6 : Int32) = nI 6 from rfl]; exact nI_ge h (by omega)
theorem nI_lt9 {i : Nat} (h : i < 9) : ¬ (9 : Int32) ≤ nI i := by rw [show (9 : Int32) = nI 9 from rfl]; exact nI_ge h (by omega)
theorem nI_lt3 {i : Nat} (h : i < 3) : ¬ (3 : Int32) ≤ nI i := by rw [show (3 : Int32) = nI 3 from rfl]; exact nI_ge h (by omega)
theorem rows_16 : ∀ j, j < 6 → tcx.1[16 + j]? = some (0, 17, []) := by decide +kernel
theorem rows_26 : ∀ j, j < 9 → tcx.1[26 + j]? = some (0, 17, []) := by decide +kernel
theorem rows_36 : ∀ j, j < 9 → tcx.1[36 + j]? = some (0, 17, []) := by decide +kernel
