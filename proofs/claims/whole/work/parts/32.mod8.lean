/-! bits of an int -/
def bq (x : Int32) (i : Nat) : Bool := x.toBitVec.getLsbD i
theorem bq_ext {x y : Int32} (h : ∀ i, i < 32 → bq x i = bq y i) : x = y := by
  apply Int32.toBitVec_inj.mp
  apply BitVec.eq_of_getLsbD_eq
  intro i hi
  exact h i hi
theorem bq_or (x y : Int32) (i : Nat) : bq (x ||| y) i = (bq x i || bq y i) := by unfold bq; rw [Int32.toBitVec_or, BitVec.getLsbD_or]
theorem bq_and (x y : Int32) (i : Nat) : bq (x &&& y) i = (bq x i && bq y i) := by unfold bq; rw [Int32.toBitVec_and, BitVec.getLsbD_and]
theorem bq_xor (x y : Int32) (i : Nat) : bq (x ^^^ y) i = (bq x i ^^ bq y i) := by unfold bq; rw [Int32.toBitVec_xor, BitVec.getLsbD_xor]
theorem bq_m1 : ∀ i, i < 32 → bq (-1) i = true := by decide +kernel
theorem bq_0 (i : Nat) : bq 0 i = false := BitVec.getLsbD_zero
theorem bq_63 : ∀ i, i < 32 → bq 63 i = decide (i < 6) := by decide +kernel
theorem bq_sh : ∀ a, a < 32 → ∀ i, i < 32 → bq (tp_sh (nI a)) i = decide (i = a) := by decide +kernel
theorem bq_not (x : Int32) {i : Nat} (hi : i < 32) : bq (x ^^^ (-1)) i = !bq x i := by rw [bq_xor, bq_m1 i hi, Bool.xor_true]
theorem bq_amt : ∀ n, n < 32 → ((nI n &&& 31).toBitVec.smod 32).toNat = n := by decide +kernel
theorem bq_1 : ∀ i, i < 32 → bq 1 i = decide (i = 0) := by decide +kernel
theorem bq_shr {a : Nat} (ha : a < 32) (x : Int32) : (x >>> (nI a &&& 31)) &&& 1 = if bq x a = true then 1 else 0 := by
  have z : bq (x >>> (nI a &&& 31)) 0 = bq x a := by
    unfold bq
    rw [Int32.toBitVec_shiftRight]
    show (x.toBitVec.sshiftRight ((nI a &&& 31).toBitVec.smod 32).toNat).getLsbD 0 = _
    rw [bq_amt a ha, BitVec.getLsbD_sshiftRight]
    simp [ha]
  apply bq_ext
  intro i hi
  rw [bq_and, bq_1 i hi]
  by_cases e : i = 0
  · subst e
    rw [z]
    cases bq x a <;> rfl
  · rw [decide_eq_false e, Bool.and_false]
    split
    · rw [bq_1 i hi, decide_eq_false e]
    · rw [bq_0]
theorem bq_shr1 {a : Nat} (ha : a < 32) (x : Int32) : (x >>> (nI a &&& 31)) &&& 1 = 1 ↔ bq x a = true := by
  rw [bq_shr ha]
  split
  · exact ⟨fun _ => by assumption, fun _ => rfl⟩
  · exact ⟨fun h => absurd h (by decide), fun h => absurd h (by assumption)⟩
theorem bq_shr0 {a : Nat} (ha : a < 32) (x : Int32) : (x >>> (nI a &&& 31)) &&& 1 = 0 ↔ bq x a = false := by
  rw [bq_shr ha]
  split
  · rename_i h; rw [h]; exact ⟨fun h => absurd h (by decide), fun h => absurd h (by decide)⟩
  · rename_i h; exact ⟨fun _ => Bool.eq_false_iff.mpr h, fun _ => rfl⟩
theorem bq_or_same {x y : Int32} (h : x ||| y = x) {i : Nat} (hy : bq y i = true) : bq x i = true := by
  rw [← h, bq_or, hy, Bool.or_true]
theorem bq_same_or {x y : Int32} (h : ∀ i, i < 32 → bq y i = true → bq x i = true) : x ||| y = x := by
  apply bq_ext
  intro i hi
  rw [bq_or]
  cases hy : bq y i
  · rw [Bool.or_false]
  · rw [h i hi hy]; rfl
/-- how much room an int has to grow by or -/
def bq_z (x : Int32) : Nat := 2 ^ 32 - x.toBitVec.toNat
theorem bq_z_or (x y : Int32) : bq_z (x ||| y) ≤ bq_z x ∧ (¬ x ||| y = x → bq_z (x ||| y) < bq_z x) := by
  have h1 : (x ||| y).toBitVec.toNat = x.toBitVec.toNat ||| y.toBitVec.toNat := by rw [Int32.toBitVec_or, BitVec.toNat_or]
  have h2 : x.toBitVec.toNat ≤ x.toBitVec.toNat ||| y.toBitVec.toNat := Nat.left_le_or
  have h3 : x.toBitVec.toNat < 2 ^ 32 := x.toBitVec.isLt
  have h4 : (x ||| y).toBitVec.toNat < 2 ^ 32 := (x ||| y).toBitVec.isLt
  unfold bq_z
  refine ⟨by omega, fun hne => ?_⟩
  have : (x ||| y).toBitVec.toNat ≠ x.toBitVec.toNat := fun e => hne (Int32.toBitVec_inj.mp (BitVec.eq_of_toNat_eq e))
  omega
/-! a line and what is lacking behind it -/
def cl_S (L : Nat → Int32) (y s : Nat) : Prop := bq (L y) s = false
theorem cl_t_bits {P1 : tp_P} {i : Nat} (hl : tp_line P1 i) (L : Nat → Int32) (y : Nat) {r : Nat} (hr : r < 6) : bq (cl_t P1 i (L y)) r = false ↔ tp_g P1 i (cl_S L) y r := by
  have hw0 := sd_w0 hl
  unfold cl_t tp_g
  by_cases h : ¬ P1 0 i < 0 ∧ ¬ 2 < P1 0 i
  · rw [if_pos h]
    obtain ⟨a, ha, ea, ew⟩ := hw0.2.2 h.1 h.2
    rw [ew, ea]
    by_cases hk : P1 0 i = 1
    · obtain ⟨b, hb, eb⟩ := hl.2.2.1 (Or.inl hk)
      rw [eb, show tp_n (nI b) = b from nI_clamp (by omega)]
      by_cases hz : bq (L y) b = true
      · rw [if_pos (Or.inr ((bq_shr1 (by omega) _).mpr hz)), bq_or, bq_sh a (by omega) r (by omega)]
        by_cases e : r = a
        · subst e
          rw [if_pos rfl, decide_eq_true rfl, Bool.or_true]
          exact ⟨fun q => absurd q (by decide), fun q => absurd (hz.symm.trans q.2) (by decide)⟩
        · rw [if_neg (fun q => e (Option.some.inj q).symm), decide_eq_false e, Bool.or_false]; exact Iff.rfl
      · rw [if_neg (fun q => q.elim (fun q => q hk) (fun q => hz ((bq_shr1 (by omega) _).mp q))), bq_and, bq_not _ (by omega), bq_sh a (by omega) r (by omega)]
        by_cases e : r = a
        · subst e
          rw [if_pos rfl, decide_eq_true rfl, Bool.not_true, Bool.and_false]
          exact ⟨fun _ => ⟨hk, Bool.eq_false_iff.mpr hz⟩, fun _ => rfl⟩
        · rw [if_neg (fun q => e (Option.some.inj q).symm), decide_eq_false e, Bool.not_false, Bool.and_true]; exact Iff.rfl
    · rw [if_pos (Or.inl hk), bq_or, bq_sh a (by omega) r (by omega)]
      by_cases e : r = a
      · subst e
        rw [if_pos rfl, decide_eq_true rfl, Bool.or_true]
        exact ⟨fun q => absurd q (by decide), fun q => absurd q.1 hk⟩
      · rw [if_neg (fun q => e (Option.some.inj q).symm), decide_eq_false e, Bool.or_false]; exact Iff.rfl
  · rw [if_neg h]
    have ew : tp_w P1 i = none := by
      by_cases h0 : P1 0 i < 0
      · exact hw0.1 h0
      · exact hw0.2.1 (Classical.byContradiction fun q => h ⟨h0, q⟩)
    rw [ew, if_neg (by intro q; cases q)]
    exact Iff.rfl
theorem cl_f_bits {P P1 : tp_P} {i : Nat} (hl : tp_line P i) (hl1 : tp_line P1 i) (hne : ¬ P 0 i = -1) (L : Nat → Int32) {x r : Nat} (hx : x < 9) (hr : r < 6) : bq (cl_f P P1 i (fun y => cl_t P1 i (L y)) x) r = false ↔ tp_ks P P1 i (cl_S L) x r := by
  obtain ⟨a, ha, ea⟩ := hl.2.1 hne
  have n1 : tp_n (P 1 i) = a := by rw [ea]; exact nI_clamp (by omega)
  unfold cl_f tp_ks
  by_cases h1 : (P 0 i = 0 ∨ P 0 i = 2) ∧ x = tp_n (P 1 i)
  · rw [if_pos h1, if_pos h1]
    by_cases hm : P1 0 i = -1
    · rw [if_pos hm, bq_63 r (by omega), decide_eq_true hr]
      exact ⟨fun q => absurd q (by decide), fun q => absurd hm q.1⟩
    · rw [if_neg hm, bq_and, bq_63 r (by omega), decide_eq_true hr, ea, bq_not _ (by omega), bq_sh a (by omega) r (by omega), Bool.true_and]
      have : x = a := h1.2.trans n1
      rw [this]
      by_cases e : r = a
      · rw [decide_eq_true e]; exact ⟨fun _ => ⟨hm, e⟩, fun _ => rfl⟩
      · rw [decide_eq_false e]; exact ⟨fun q => absurd q (by decide), fun q => absurd q.2 e⟩
  · rw [if_neg h1, if_neg h1]
    by_cases h2 : P 0 i = 1 ∧ x = tp_n (P 1 i)
    · rw [if_pos h2, if_pos h2]
      have hxa : x = a := h2.2.trans n1
      by_cases hm : P1 0 i = -1
      · rw [if_pos hm, cl_t_bits hl1 L _ hr]
        exact ⟨Or.inr, fun q => q.elim (fun q => absurd hm q.1) id⟩
      · rw [if_neg hm, bq_and, ea, bq_not _ (by omega), bq_sh a (by omega) r (by omega), hxa]
        by_cases e : r = a
        · rw [decide_eq_true e, Bool.not_true, Bool.and_false]; exact ⟨fun _ => Or.inl ⟨hm, e⟩, fun _ => rfl⟩
        · rw [decide_eq_false e, Bool.not_false, Bool.and_true, cl_t_bits hl1 L _ hr]
          exact ⟨Or.inr, fun q => q.elim (fun q => absurd q.2 e) id⟩
    · rw [if_neg h2, if_neg h2]
      by_cases h3 : P 0 i = 5 ∧ x = 6 + tp_n (P 1 i)
      · rw [if_pos h3, if_pos h3, cl_t_bits hl1 L _ hr]
      · rw [if_neg h3, if_neg h3, cl_t_bits hl1 L _ hr]
/-! spread -/
def sq_s (q r : Nat) (u : tc_S) : tc_S := fun c j => if c = 68 ∧ 9 * q ≤ j ∧ j < 9 * q + r then u 68 j ||| u 70 (j - 9 * q) else if c = 69 ∧ 9 * q ≤ j ∧ j < 9 * q + r then u 69 j ||| u 71 (j - 9 * q) else u c j
theorem sq_s_0 {q : Nat} {u : tc_S} : sq_s q 0 u = u := by
  funext c j
  unfold sq_s
  rw [if_neg (by omega), if_neg (by omega)]
theorem n69 (A : Prop) : ¬ ((69 : Nat) = 68 ∧ A) := fun z => absurd z.1 (by decide)
theorem sq_s_s {q r : Nat} {u : tc_S} : tc_up (tc_up (sq_s q r u) 68 (9 * q + r) (u 68 (9 * q + r) ||| u 70 r)) 69 (9 * q + r) (u 69 (9 * q + r) ||| u 71 r) = sq_s q (r + 1) u := by
  funext c j
  by_cases h9 : c = 69
  · subst h9
    rw [tc_up_v, if_pos rfl]
    by_cases e : j = 9 * q + r
    · subst e
      rw [if_pos rfl]
      unfold sq_s
      rw [if_neg (n69 _), if_pos ⟨rfl, by omega, by omega⟩, Nat.add_sub_cancel_left]
    · rw [if_neg e, tc_up_ne (by decide)]
      unfold sq_s
      rw [if_neg (n69 _), if_neg (n69 _)]
      by_cases k : 9 * q ≤ j ∧ j < 9 * q + r
      · rw [if_pos ⟨rfl, k⟩, if_pos ⟨rfl, by omega, by omega⟩]
      · rw [if_neg (fun z => k z.2), if_neg (by omega)]
  · rw [tc_up_ne h9]
    by_cases h8 : c = 68
    · subst h8
      rw [tc_up_v, if_pos rfl]
      by_cases e : j = 9 * q + r
      · subst e
        rw [if_pos rfl]
        unfold sq_s
        rw [if_pos ⟨rfl, by omega, by omega⟩, Nat.add_sub_cancel_left]
      · rw [if_neg e]
        unfold sq_s
        by_cases k : 9 * q ≤ j ∧ j < 9 * q + r
        · rw [if_pos ⟨rfl, k⟩, if_pos ⟨rfl, by omega, by omega⟩]
        · rw [if_neg (fun z => k z.2), if_neg (by omega), if_neg (by omega), if_neg (by omega)]
    · rw [tc_up_ne h8]
      unfold sq_s
      rw [if_neg (fun z => h8 z.1), if_neg (fun z => h9 z.1), if_neg (fun z => h8 z.1), if_neg (fun z => h9 z.1)]
theorem sq_s_o {q r c : Nat} {u : tc_S} (h : c ≠ 68) (h2 : c ≠ 69) : sq_s q r u c = u c := by
  funext j
  unfold sq_s
  rw [if_neg (fun z => h z.1), if_neg (fun z => h2 z.1)]
def sq_c (u : tc_S) (q x : Nat) : Prop := ¬ u 68 (9 * q + x) ||| u 70 x = u 68 (9 * q + x) ∨ ¬ u 69 (9 * q + x) ||| u 71 x = u 69 (9 * q + x)
set_option maxRecDepth 100000 in
set_option maxHeartbeats 4000000 in
theorem c_D_spread (l : Launch) (G : tc_G) (u : tc_S) {q : Nat} (hq : q < 17) : tc_C tcx G l yD_spread wD_spread r0D_spread 0 0 [.ref (tc_ad G 56), .int (nI q)] u (tc_Ki (tp_b (∃ x, x < 9 ∧ sq_c u q x)) (sq_s q 9 u)) := by
  refine tw_ofV (own := "TracedCodeModel") [some (.ref (tc_ad G 56)), some (.int (nI q)), none, none, none, none] (by decide +kernel) rfl (Nat.le_of_ble_eq_true rfl) (by rfl) (fun p e s m args below meth c => ?_)
  have loop : ∀ (d r : Nat) (z4 z5 : Option Value), r + d = 9 → tc_V tcx G p l e r0D_spread s m args below meth c bD_spread 6 tw "TracedCodeModel" (some .boolean) [] (MQ below (tc_Qc tcx G (tc_Ki (tp_b (∃ x, x < 9 ∧ sq_c u q x)) (sq_s q 9 u)) s.heap.size) args s 0 0 (tc_A tcx G s.heap.size)) 0 0 (sq_s q r u) 4 [some (.ref (tc_ad G 56)), some (.int (nI q)), some (.int (tp_b (∃ x, x < r ∧ sq_c u q x))), some (.int (nI r)), z4, z5] [] := by
    intro d
    induction d with
    | zero =>
      intro r z4 z5 hd
      have hr : r = 9 := by omega
      subst hr
      refine tv_iload_n (pc := 4) dD_spread_4 (by rfl) ?_
      refine tv_bipush (v := 9) (pc := 5) dD_spread_5 (by decide) ?_
      refine tv_icmp_ge (pc := 7) 124 dD_spread_7 (by decide) (fun _ => ?_) (fun h => absurd (by decide) h)
      refine tv_iload_n (pc := 124) dD_spread_124 (by rfl) ?_
      exact tv_zret (pc := 125) dD_spread_125 rfl (Nat.le_refl _) (Nat.le_refl _) tp_b_z ⟨rfl, rfl⟩
    | succ d ih =>
      intro r z4 z5 hd
      have hr9 : tc_ix (nI r) 9 r := tc_ixN (by omega) (by decide)
      have hr153 := ix153 (i := q) (r := r) hq (by omega)
      have e8 : sq_s q r u 68 (9 * q + r) = u 68 (9 * q + r) := by unfold sq_s; rw [if_neg (by omega), if_neg (by omega)]
      have e9 : sq_s q r u 69 (9 * q + r) = u 69 (9 * q + r) := by unfold sq_s; rw [if_neg (by omega), if_neg (by omega)]
      have e70 : sq_s q r u 70 r = u 70 r := by rw [sq_s_o (by decide) (by decide)]
      have e71 : sq_s q r u 71 r = u 71 r := by rw [sq_s_o (by decide) (by decide)]
      have ha := ih (r + 1) (some (.int (u 68 (9 * q + r) ||| u 70 r))) (some (.int (u 69 (9 * q + r) ||| u 71 r))) (by omega)
      rw [← sq_s_s (r := r), ← nI_1 r] at ha
      have r91 : tc_V tcx G p l e r0D_spread s m args below meth c bD_spread 6 tw "TracedCodeModel" (some .boolean) [] (MQ below (tc_Qc tcx G (tc_Ki (tp_b (∃ x, x < 9 ∧ sq_c u q x)) (sq_s q 9 u)) s.heap.size) args s 0 0 (tc_A tcx G s.heap.size)) 0 0 (sq_s q r u) 91 [some (.ref (tc_ad G 56)), some (.int (nI q)), some (.int (tp_b (∃ x, x < r ∧ sq_c u q x))), some (.int (nI r)), some (.int (u 68 (9 * q + r) ||| u 70 r)), some (.int (u 69 (9 * q + r) ||| u 71 r))] [.int (tp_b (∃ x, x < r + 1 ∧ sq_c u q x))] := by
        refine tv_istore2 (pc := 91) dD_spread_91 (by rfl) ?_
        refine tv_aload_n (pc := 92) dD_spread_92 (by rfl) ?_
        refine tv_getR (pc := 93) 15 tb_56 (by rfl) uwD_ (by decide) wm_677 (by rfl) dD_spread_93 ?_
        refine tv_bipush (v := 9) (pc := 96) dD_spread_96 (by decide) ?_
        refine tv_iload_n (pc := 98) dD_spread_98 (by rfl) ?_
        refine tv_imul (pc := 99) dD_spread_99 ?_
        refine tv_iload_n (pc := 100) dD_spread_100 (by rfl) ?_
        refine tv_iadd (pc := 101) dD_spread_101 ?_
        refine tv_iload (pc := 102) dD_spread_102 (by rfl) ?_
        refine tv_iast (pc := 104) tb_68 (by assumption) dD_spread_104 ?_
        refine tv_aload_n (pc := 105) dD_spread_105 (by rfl) ?_
        refine tv_getR (pc := 106) 16 tb_56 (by rfl) uwD_ (by decide) wm_678 (by rfl) dD_spread_106 ?_
        refine tv_bipush (v := 9) (pc := 109) dD_spread_109 (by decide) ?_
        refine tv_iload_n (pc := 111) dD_spread_111 (by rfl) ?_
        refine tv_imul (pc := 112) dD_spread_112 ?_
        refine tv_iload_n (pc := 113) dD_spread_113 (by rfl) ?_
        refine tv_iadd (pc := 114) dD_spread_114 ?_
        refine tv_iload (pc := 115) dD_spread_115 (by rfl) ?_
        refine tv_iast (pc := 117) tb_69 (by assumption) dD_spread_117 ?_
        refine tv_iinc3 (v := 1) (pc := 118) dD_spread_118 (by decide) (by rfl) ?_
        refine tv_goto (pc := 121) 4 dD_spread_121 (by decide) ?_
        exact ha
      refine tv_iload_n (pc := 4) dD_spread_4 (by rfl) ?_
      refine tv_bipush (v := 9) (pc := 5) dD_spread_5 (by decide) ?_
      refine tv_icmp_ge (pc := 7) 124 dD_spread_7 (by decide) (fun h => absurd h (nI_lt9 (by omega))) (fun _ => ?_)
      refine tv_aload_n (pc := 10) dD_spread_10 (by rfl) ?_
      refine tv_getR (pc := 11) 15 tb_56 (by rfl) uwD_ (by decide) wm_677 (by rfl) dD_spread_11 ?_
      refine tv_bipush (v := 9) (pc := 14) dD_spread_14 (by decide) ?_
      refine tv_iload_n (pc := 16) dD_spread_16 (by rfl) ?_
      refine tv_imul (pc := 17) dD_spread_17 ?_
      refine tv_iload_n (pc := 18) dD_spread_18 (by rfl) ?_
      refine tv_iadd (pc := 19) dD_spread_19 ?_
      refine tv_iald (pc := 20) tb_68 (by assumption) dD_spread_20 ?_
      rw [e8]
      refine tv_aload_n (pc := 21) dD_spread_21 (by rfl) ?_
      refine tv_getR (pc := 22) 17 tb_56 (by rfl) uwD_ (by decide) wm_679 (by rfl) dD_spread_22 ?_
      refine tv_iload_n (pc := 25) dD_spread_25 (by rfl) ?_
      refine tv_iald (pc := 26) tb_70 hr9 dD_spread_26 ?_
      rw [e70]
      refine tv_ior (pc := 27) dD_spread_27 ?_
      refine tv_istore4 (pc := 28) dD_spread_28 (by rfl) ?_
      refine tv_aload_n (pc := 30) dD_spread_30 (by rfl) ?_
      refine tv_getR (pc := 31) 16 tb_56 (by rfl) uwD_ (by decide) wm_678 (by rfl) dD_spread_31 ?_
      refine tv_bipush (v := 9) (pc := 34) dD_spread_34 (by decide) ?_
      refine tv_iload_n (pc := 36) dD_spread_36 (by rfl) ?_
      refine tv_imul (pc := 37) dD_spread_37 ?_
      refine tv_iload_n (pc := 38) dD_spread_38 (by rfl) ?_
      refine tv_iadd (pc := 39) dD_spread_39 ?_
      refine tv_iald (pc := 40) tb_69 (by assumption) dD_spread_40 ?_
      rw [e9]
      refine tv_aload_n (pc := 41) dD_spread_41 (by rfl) ?_
      refine tv_getR (pc := 42) 18 tb_56 (by rfl) uwD_ (by decide) wm_680 (by rfl) dD_spread_42 ?_
      refine tv_iload_n (pc := 45) dD_spread_45 (by rfl) ?_
      refine tv_iald (pc := 46) tb_71 hr9 dD_spread_46 ?_
      rw [e71]
      refine tv_ior (pc := 47) dD_spread_47 ?_
      refine tv_istore5 (pc := 48) dD_spread_48 (by rfl) ?_
      refine tv_iload_n (pc := 50) dD_spread_50 (by rfl) ?_
      refine tv_if_ne (pc := 51) 86 dD_spread_51 (by decide) (fun h51 => ?_) (fun h51 => ?_)
      · skip
        refine tv_iconst (v := 1) (pc := 86) dD_spread_86 (by decide) ?_
        refine tv_goto (pc := 87) 91 dD_spread_87 (by decide) ?_
        first
        | (have hx : ¬ tp_b (∃ x, x < r ∧ sq_c u q x) = 0 := (by assumption)
           rw [tp_b_t (p := ∃ x, x < r + 1 ∧ sq_c u q x) (ex_lt_s.mpr (Or.inl (tp_b_p hx)))] at r91
           exact r91)
        | (have hx : ¬ u 68 (9 * q + r) ||| u 70 r = u 68 (9 * q + r) := (by assumption)
           rw [tp_b_t (p := ∃ x, x < r + 1 ∧ sq_c u q x) (ex_lt_s.mpr (Or.inr (Or.inl hx)))] at r91
           exact r91)
        | (have hx : ¬ u 69 (9 * q + r) ||| u 71 r = u 69 (9 * q + r) := (by assumption)
           rw [tp_b_t (p := ∃ x, x < r + 1 ∧ sq_c u q x) (ex_lt_s.mpr (Or.inr (Or.inr hx)))] at r91
           exact r91)
        | (have h0 : tp_b (∃ x, x < r ∧ sq_c u q x) = 0 := (by assumption)
           have h1 : u 68 (9 * q + r) ||| u 70 r = u 68 (9 * q + r) := (by assumption)
           have h2 : u 69 (9 * q + r) ||| u 71 r = u 69 (9 * q + r) := (by assumption)
           rw [tp_b_f (p := ∃ x, x < r + 1 ∧ sq_c u q x) (fun z => (ex_lt_s.mp z).elim (tp_b_q h0) (fun z => z.elim (fun z => z h1) (fun z => z h2)))] at r91
           exact r91)
      · skip
        refine tv_iload (pc := 54) dD_spread_54 (by rfl) ?_
        refine tv_aload_n (pc := 56) dD_spread_56 (by rfl) ?_
        refine tv_getR (pc := 57) 15 tb_56 (by rfl) uwD_ (by decide) wm_677 (by rfl) dD_spread_57 ?_
        refine tv_bipush (v := 9) (pc := 60) dD_spread_60 (by decide) ?_
        refine tv_iload_n (pc := 62) dD_spread_62 (by rfl) ?_
        refine tv_imul (pc := 63) dD_spread_63 ?_
        refine tv_iload_n (pc := 64) dD_spread_64 (by rfl) ?_
        refine tv_iadd (pc := 65) dD_spread_65 ?_
        refine tv_iald (pc := 66) tb_68 (by assumption) dD_spread_66 ?_
        rw [e8]
        refine tv_icmp_ne (pc := 67) 86 dD_spread_67 (by decide) (fun h67 => ?_) (fun h67 => ?_)
        · skip
          refine tv_iconst (v := 1) (pc := 86) dD_spread_86 (by decide) ?_
          refine tv_goto (pc := 87) 91 dD_spread_87 (by decide) ?_
          first
          | (have hx : ¬ tp_b (∃ x, x < r ∧ sq_c u q x) = 0 := (by assumption)
             rw [tp_b_t (p := ∃ x, x < r + 1 ∧ sq_c u q x) (ex_lt_s.mpr (Or.inl (tp_b_p hx)))] at r91
             exact r91)
          | (have hx : ¬ u 68 (9 * q + r) ||| u 70 r = u 68 (9 * q + r) := (by assumption)
             rw [tp_b_t (p := ∃ x, x < r + 1 ∧ sq_c u q x) (ex_lt_s.mpr (Or.inr (Or.inl hx)))] at r91
             exact r91)
          | (have hx : ¬ u 69 (9 * q + r) ||| u 71 r = u 69 (9 * q + r) := (by assumption)
             rw [tp_b_t (p := ∃ x, x < r + 1 ∧ sq_c u q x) (ex_lt_s.mpr (Or.inr (Or.inr hx)))] at r91
             exact r91)
          | (have h0 : tp_b (∃ x, x < r ∧ sq_c u q x) = 0 := (by assumption)
             have h1 : u 68 (9 * q + r) ||| u 70 r = u 68 (9 * q + r) := (by assumption)
             have h2 : u 69 (9 * q + r) ||| u 71 r = u 69 (9 * q + r) := (by assumption)
             rw [tp_b_f (p := ∃ x, x < r + 1 ∧ sq_c u q x) (fun z => (ex_lt_s.mp z).elim (tp_b_q h0) (fun z => z.elim (fun z => z h1) (fun z => z h2)))] at r91
             exact r91)
        · skip
          refine tv_iload (pc := 70) dD_spread_70 (by rfl) ?_
          refine tv_aload_n (pc := 72) dD_spread_72 (by rfl) ?_
          refine tv_getR (pc := 73) 16 tb_56 (by rfl) uwD_ (by decide) wm_678 (by rfl) dD_spread_73 ?_
          refine tv_bipush (v := 9) (pc := 76) dD_spread_76 (by decide) ?_
          refine tv_iload_n (pc := 78) dD_spread_78 (by rfl) ?_
          refine tv_imul (pc := 79) dD_spread_79 ?_
          refine tv_iload_n (pc := 80) dD_spread_80 (by rfl) ?_
          refine tv_iadd (pc := 81) dD_spread_81 ?_
          refine tv_iald (pc := 82) tb_69 (by assumption) dD_spread_82 ?_
          rw [e9]
          refine tv_icmp_eq (pc := 83) 90 dD_spread_83 (by decide) (fun h83 => ?_) (fun h83 => ?_)
          · skip
            refine tv_iconst (v := 0) (pc := 90) dD_spread_90 (by decide) ?_
            first
            | (have hx : ¬ tp_b (∃ x, x < r ∧ sq_c u q x) = 0 := (by assumption)
               rw [tp_b_t (p := ∃ x, x < r + 1 ∧ sq_c u q x) (ex_lt_s.mpr (Or.inl (tp_b_p hx)))] at r91
               exact r91)
            | (have hx : ¬ u 68 (9 * q + r) ||| u 70 r = u 68 (9 * q + r) := (by assumption)
               rw [tp_b_t (p := ∃ x, x < r + 1 ∧ sq_c u q x) (ex_lt_s.mpr (Or.inr (Or.inl hx)))] at r91
               exact r91)
            | (have hx : ¬ u 69 (9 * q + r) ||| u 71 r = u 69 (9 * q + r) := (by assumption)
               rw [tp_b_t (p := ∃ x, x < r + 1 ∧ sq_c u q x) (ex_lt_s.mpr (Or.inr (Or.inr hx)))] at r91
               exact r91)
            | (have h0 : tp_b (∃ x, x < r ∧ sq_c u q x) = 0 := (by assumption)
               have h1 : u 68 (9 * q + r) ||| u 70 r = u 68 (9 * q + r) := (by assumption)
               have h2 : u 69 (9 * q + r) ||| u 71 r = u 69 (9 * q + r) := (by assumption)
               rw [tp_b_f (p := ∃ x, x < r + 1 ∧ sq_c u q x) (fun z => (ex_lt_s.mp z).elim (tp_b_q h0) (fun z => z.elim (fun z => z h1) (fun z => z h2)))] at r91
               exact r91)
          · skip
            refine tv_iconst (v := 1) (pc := 86) dD_spread_86 (by decide) ?_
            refine tv_goto (pc := 87) 91 dD_spread_87 (by decide) ?_
            first
            | (have hx : ¬ tp_b (∃ x, x < r ∧ sq_c u q x) = 0 := (by assumption)
               rw [tp_b_t (p := ∃ x, x < r + 1 ∧ sq_c u q x) (ex_lt_s.mpr (Or.inl (tp_b_p hx)))] at r91
               exact r91)
            | (have hx : ¬ u 68 (9 * q + r) ||| u 70 r = u 68 (9 * q + r) := (by assumption)
               rw [tp_b_t (p := ∃ x, x < r + 1 ∧ sq_c u q x) (ex_lt_s.mpr (Or.inr (Or.inl hx)))] at r91
               exact r91)
            | (have hx : ¬ u 69 (9 * q + r) ||| u 71 r = u 69 (9 * q + r) := (by assumption)
               rw [tp_b_t (p := ∃ x, x < r + 1 ∧ sq_c u q x) (ex_lt_s.mpr (Or.inr (Or.inr hx)))] at r91
               exact r91)
            | (have h0 : tp_b (∃ x, x < r ∧ sq_c u q x) = 0 := (by assumption)
               have h1 : u 68 (9 * q + r) ||| u 70 r = u 68 (9 * q + r) := (by assumption)
               have h2 : u 69 (9 * q + r) ||| u 71 r = u 69 (9 * q + r) := (by assumption)
               rw [tp_b_f (p := ∃ x, x < r + 1 ∧ sq_c u q x) (fun z => (ex_lt_s.mp z).elim (tp_b_q h0) (fun z => z.elim (fun z => z h1) (fun z => z h2)))] at r91
               exact r91)
  have hl0 := loop 9 0 none none (by omega)
  rw [sq_s_0, tp_b_0] at hl0
  refine tv_iconst (v := 0) (pc := 0) dD_spread_0 (by decide) ?_
  refine tv_istore2 (pc := 1) dD_spread_1 (by rfl) ?_
  refine tv_iconst (v := 0) (pc := 2) dD_spread_2 (by decide) ?_
  refine tv_istore3 (pc := 3) dD_spread_3 (by rfl) ?_
  exact hl0
