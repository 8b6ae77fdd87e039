def fa_F (u v : tc_S) : Prop := ∀ q, q < 68 ∨ 71 < q → v q = u q
theorem fa_F.rf {u : tc_S} : fa_F u u := fun _ _ => rfl
theorem fa_F.tr {u v w : tc_S} (h : fa_F u v) (h2 : fa_F v w) : fa_F u w := fun q hq => (h2 q hq).trans (h q hq)
theorem fa_up {u v : tc_S} {k i : Nat} {x : Int32} (h : fa_F u v) (hk : 68 ≤ k ∧ k ≤ 71) : fa_F u (tc_up v k i x) := fun q hq => (tc_up_ne (by omega)).trans (h q hq)
theorem fa_ps {v : tc_S} {i : Nat} : fa_F v (cl_ps i v) := fun q hq => by unfold cl_ps; exact cl_rs_o (by omega)
theorem fa_sq {v : tc_S} {q r : Nat} : fa_F v (sq_s q r v) := fun c hc => sq_s_o (by omega) (by omega)
theorem fa_pm {u v : tc_S} (h : fa_F u v) (o : Nat) : pm v o = pm u o := by
  funext j i
  unfold pm
  by_cases hj : j < 4
  · rw [if_pos hj, if_pos hj, h (57 + j) (by omega)]
  · rw [if_neg hj, if_neg hj]
theorem bq_F : ∀ i, i < 32 → bq 65536 i = decide (i = 16) := by decide +kernel
theorem bq_U : ∀ i, i < 32 → bq 131072 i = decide (i = 17) := by decide +kernel
theorem fc_init {n : Nat} {P P1 : tp_P} {l o : Nat → Int32} (hn : n ≤ 16) (h1 : ∀ k, k < 153 → l k = if k < 9 then (if k < 6 then 0 else 63) else 0) (h2 : ∀ k, k < 153 → o k = if k < 9 then (if k < 6 then 65536 else 131072) else 0) : fc_I n P P1 l o := by
  have l0 : ∀ x, x < 9 → l (9 * 0 + x) = if x < 6 then 0 else 63 := fun x hx => by rw [Nat.mul_zero, Nat.zero_add, h1 x (by omega), if_pos hx]
  have o0 : ∀ x, x < 9 → o (9 * 0 + x) = if x < 6 then 65536 else 131072 := fun x hx => by rw [Nat.mul_zero, Nat.zero_add, h2 x (by omega), if_pos hx]
  have lq : ∀ q x, q ≤ n → x < 9 → 0 < q → l (9 * q + x) = 0 := fun q x hq hx h0 => by rw [h1 _ (by omega), if_neg (by omega)]
  have oq : ∀ q x, q ≤ n → x < 9 → 0 < q → o (9 * q + x) = 0 := fun q x hq hx h0 => by rw [h2 _ (by omega), if_neg (by omega)]
  refine ⟨⟨fun x h6 hx r hr => ?_, fun x hx => ?_, fun x h6 hx => ?_⟩, fun S hS q hq x hx r hr h => ?_, fun S hS q hq x hx c h b hb hg => ?_, fun q hq x hx hg => ?_, fun q hq x hx b h32 h18 => ?_⟩
  · rw [h1 x (by omega), if_pos hx, if_neg (by omega), bq_63 r (by omega), decide_eq_true hr]
  · rw [h2 x (by omega), if_pos (by omega), if_pos hx, bq_F 16 (by omega)]; rfl
  · rw [h2 x (by omega), if_pos hx, if_neg (by omega), bq_U 17 (by omega)]; rfl
  · rcases Nat.eq_zero_or_pos q with e | e
    · subst e
      rw [l0 x hx, if_pos (hS.1 x r h), bq_0]
    · rw [lq q x hq hx e, bq_0]
  · rcases Nat.eq_zero_or_pos q with e | e
    · subst e
      have := hS.1 x c h
      rw [o0 x hx, if_pos this.1, bq_F b hb] at hg
      exact Or.inl ⟨of_decide_eq_true hg, this.2⟩
    · rw [oq q x hq hx e, bq_0] at hg
      exact absurd hg (by decide)
  · rcases Nat.eq_zero_or_pos q with e | e
    · subst e
      rw [o0 x hx] at hg
      rw [l0 x hx]
      by_cases h6 : x < 6
      · rw [if_pos h6, bq_F 17 (by omega)] at hg; exact absurd hg (by decide)
      · rw [if_neg h6]
        exact ⟨by omega, fun r hr => by rw [bq_63 r (by omega), decide_eq_true hr]⟩
    · rw [oq q x hq hx e, bq_0] at hg
      exact absurd hg (by decide)
  · rcases Nat.eq_zero_or_pos q with e | e
    · subst e
      rw [o0 x hx] at h18
      split at h18
      · rw [bq_F b h32] at h18; exact Or.inr (Or.inl (of_decide_eq_true h18))
      · rw [bq_U b h32] at h18; exact Or.inr (Or.inr (of_decide_eq_true h18))
    · rw [oq q x hq hx e, bq_0] at h18
      exact absurd h18 (by decide)
/-- in a round -/
def fc_Q (n : Nat) (P P1 : tp_P) (l0 o0 : Nat → Int32) (p : Nat) (v : tc_S) (c : Int32) : Prop := fc_z (v 68) (v 69) 153 ≤ fc_z l0 o0 153 ∧ ((c = 0 ∧ v 68 = l0 ∧ v 69 = o0 ∧ ∀ i, i < p → fc_C n P P1 l0 o0 i) ∨ (c = 1 ∧ fc_z (v 68) (v 69) 153 < fc_z l0 o0 153))
def fc_2 (i : Nat) (v : tc_S) : tc_S := sq_s (i + 1) 9 (cl_ps i v)
def fc_3 (i t : Nat) (v : tc_S) : tc_S := sq_s t 9 (fc_2 i v)
def fc_c2 (i : Nat) (v : tc_S) : Prop := ∃ x, x < 9 ∧ sq_c (cl_ps i v) (i + 1) x
def fc_c3 (i t : Nat) (v : tc_S) : Prop := ∃ x, x < 9 ∧ sq_c (fc_2 i v) t x
theorem cl_ps_68 {i : Nat} {v : tc_S} : cl_ps i v 68 = v 68 := by unfold cl_ps; exact cl_rs_o (by omega)
theorem cl_ps_69 {i : Nat} {v : tc_S} : cl_ps i v 69 = v 69 := by unfold cl_ps; exact cl_rs_o (by omega)
theorem cl_ps_70 {i x : Nat} {v : tc_S} (hx : x < 9) : cl_ps i v 70 x = fc_F (pm v 0) (pm v 16) (v 68) i x := by unfold cl_ps; rw [cl_rs_70 hx]; rfl
theorem cl_ps_71 {i x : Nat} {v : tc_S} (hx : x < 9) : cl_ps i v 71 x = fc_G (pm v 0) (v 69) i x := by unfold cl_ps; rw [cl_rs_71 hx]; rfl
theorem fc_step {n i : Nat} {P P1 : tp_P} {l0 o0 : Nat → Int32} {v : tc_S} {c : Int32} (hn : n ≤ 16) (hi : i < n) (hv0 : pm v 0 = P) (hv1 : pm v 16 = P1) (hl : tp_line P i) (hl1 : tp_line P1 i) (hne : ¬ P 0 i = -1) (hI : fc_I n P P1 (v 68) (v 69)) (hQ : fc_Q n P P1 l0 o0 i v c) :
    fc_I n P P1 (fc_3 i (tp_tg n P i) v 68) (fc_3 i (tp_tg n P i) v 69) ∧ fc_Q n P P1 l0 o0 (i + 1) (fc_3 i (tp_tg n P i) v) (tp_b (¬ c = 0 ∨ fc_c2 i v ∨ fc_c3 i (tp_tg n P i) v)) := by
  have tle := tp_tg_le (P := P) hi
  have p1 := fc_pass hI hn hi hl hl1 hne (q := i + 1) (Or.inl rfl)
  have p2 := fc_pass hI hn hi hl hl1 hne (q := tp_tg n P i) (Or.inr rfl)
  have s68 : ∀ q', q' ≤ n → ∀ x, x < 9 → fc_2 i v 68 (9 * q' + x) = if q' = i + 1 then v 68 (9 * q' + x) ||| fc_F P P1 (v 68) i x else v 68 (9 * q' + x) := fun q' _ x hx => by
    unfold fc_2; rw [sq_s_8 hx, cl_ps_68, cl_ps_70 hx, hv0, hv1]
  have s69 : ∀ q', q' ≤ n → ∀ x, x < 9 → fc_2 i v 69 (9 * q' + x) = if q' = i + 1 then v 69 (9 * q' + x) ||| fc_G P (v 69) i x else v 69 (9 * q' + x) := fun q' _ x hx => by
    unfold fc_2; rw [sq_s_9 hx, cl_ps_69, cl_ps_71 hx, hv0]
  have t70 : ∀ x, x < 9 → fc_2 i v 70 x = fc_F P P1 (v 68) i x := fun x hx => by unfold fc_2; rw [sq_s_o (by decide) (by decide), cl_ps_70 hx, hv0, hv1]
  have t71 : ∀ x, x < 9 → fc_2 i v 71 x = fc_G P (v 69) i x := fun x hx => by unfold fc_2; rw [sq_s_o (by decide) (by decide), cl_ps_71 hx, hv0]
  have I2 : fc_I n P P1 (fc_2 i v 68) (fc_2 i v 69) := fc_or hI p1 s68 s69
  have I3 : fc_I n P P1 (fc_3 i (tp_tg n P i) v 68) (fc_3 i (tp_tg n P i) v 69) := fc_or I2 p2 (fun q' _ x hx => by unfold fc_3; rw [sq_s_8 hx, t70 x hx]) (fun q' _ x hx => by unfold fc_3; rw [sq_s_9 hx, t71 x hx])
  refine ⟨I3, ?_⟩
  have z2 : fc_z (fc_2 i v 68) (fc_2 i v 69) 153 ≤ fc_z (v 68) (v 69) 153 := by
    have := fc_z_le (sq_s_z (i + 1) (cl_ps i v)) 153
    rw [cl_ps_68, cl_ps_69] at this; exact this
  have z3 : fc_z (fc_3 i (tp_tg n P i) v 68) (fc_3 i (tp_tg n P i) v 69) 153 ≤ fc_z (fc_2 i v 68) (fc_2 i v 69) 153 := fc_z_le (sq_s_z (tp_tg n P i) (fc_2 i v)) 153
  refine ⟨by have := hQ.1; omega, ?_⟩
  by_cases c2 : fc_c2 i v
  · right
    refine ⟨tp_b_t (Or.inr (Or.inl c2)), ?_⟩
    have := sq_s_lt (by omega) c2
    rw [cl_ps_68, cl_ps_69] at this
    have z2' : fc_z (fc_2 i v 68) (fc_2 i v 69) 153 < fc_z (v 68) (v 69) 153 := this
    have := hQ.1
    omega
  · by_cases c3 : fc_c3 i (tp_tg n P i) v
    · right
      refine ⟨tp_b_t (Or.inr (Or.inr c3)), ?_⟩
      have z3' : fc_z (fc_3 i (tp_tg n P i) v 68) (fc_3 i (tp_tg n P i) v 69) 153 < fc_z (fc_2 i v 68) (fc_2 i v 69) 153 := sq_s_lt (by omega) c3
      have := hQ.1
      omega
    · have e2 : fc_2 i v = cl_ps i v := sq_s_same c2
      have e3 : fc_3 i (tp_tg n P i) v = cl_ps i v := (sq_s_same c3).trans e2
      rcases hQ.2 with ⟨hc, h8, h9, hC⟩ | ⟨hc, hz⟩
      · left
        refine ⟨tp_b_f (fun z => z.elim (fun z => z hc) (fun z => z.elim c2 c3)), by rw [e3, cl_ps_68]; exact h8, by rw [e3, cl_ps_69]; exact h9, fun i' hi' => ?_⟩
        by_cases e : i' = i
        · subst e
          intro q hq x hx
          have key : ∀ q, (¬ ∃ x, x < 9 ∧ sq_c (cl_ps i' v) q x) → v 68 (9 * q + x) ||| fc_F P P1 (v 68) i' x = v 68 (9 * q + x) ∧ v 69 (9 * q + x) ||| fc_G P (v 69) i' x = v 69 (9 * q + x) := fun q h => by
            constructor
            · refine Classical.byContradiction fun z => h ⟨x, hx, Or.inl ?_⟩
              rw [cl_ps_68, cl_ps_70 hx, hv0, hv1]; exact z
            · refine Classical.byContradiction fun z => h ⟨x, hx, Or.inr ?_⟩
              rw [cl_ps_69, cl_ps_71 hx, hv0]; exact z
          rw [← h8, ← h9]
          rcases hq with e | e
          · rw [e]; exact key _ c2
          · rw [e]
            refine key _ (fun z => c3 ?_)
            unfold fc_c3; rw [e2]; exact z
        · exact hC i' (by omega)
      · right
        refine ⟨tp_b_t (Or.inl (by rw [hc]; decide)), ?_⟩
        rw [e3, cl_ps_68, cl_ps_69]; exact hz
set_option maxRecDepth 100000 in
set_option maxHeartbeats 4000000 in
theorem c_D_findCarriers (l : Launch) (G : tc_G) (u : tc_S) {n : Nat} (hs : u 56 1 = nI n) (hn : n ≤ 16) (hP : ∀ i, i < n → tp_line (pm u 0) i) (hne : ∀ i, i < n → ¬ pm u 0 0 i = -1) (hP1 : ∀ i, i < n → tp_line (pm u 16) i) (hre : ∀ i, i < n → u 65 i = 1) : tc_C tcx G l yD_findCarriers wD_findCarriers r0D_findCarriers 0 0 [.ref (tc_ad G 56)] u (tc_KV (fun v => fa_F u v ∧ fc_R n (pm u 0) (pm u 16) (v 68) (v 69))) := by
  refine tw_ofV (own := "TracedCodeModel") [some (.ref (tc_ad G 56)), none, none, none, none] (by decide +kernel) rfl (Nat.le_of_ble_eq_true rfl) (by rfl) (fun p e s m args below meth c => ?_)
  have inner : ∀ (l0 o0 : Nat → Int32), (∀ (v : tc_S) (c0 : Int32) (z2 z3 z4 : Option Value), fa_F u v → fc_I n (pm u 0) (pm u 16) (v 68) (v 69) → fc_Q n (pm u 0) (pm u 16) l0 o0 n v c0 → tc_V tcx G p l e r0D_findCarriers s m args below meth c bD_findCarriers 5 tw "TracedCodeModel" none [] (MQ below (tc_Qc tcx G (tc_KV (fun v => fa_F u v ∧ fc_R n (pm u 0) (pm u 16) (v 68) (v 69))) s.heap.size) args s 0 0 (tc_A tcx G s.heap.size)) 0 0 v 82 [some (.ref (tc_ad G 56)), some (.int c0), z2, z3, z4] []) → ∀ (d q : Nat) (v : tc_S) (c0 : Int32) (z3 z4 : Option Value), q + d = n → fa_F u v → fc_I n (pm u 0) (pm u 16) (v 68) (v 69) → fc_Q n (pm u 0) (pm u 16) l0 o0 q v c0 → tc_V tcx G p l e r0D_findCarriers s m args below meth c bD_findCarriers 5 tw "TracedCodeModel" none [] (MQ below (tc_Qc tcx G (tc_KV (fun v => fa_F u v ∧ fc_R n (pm u 0) (pm u 16) (v 68) (v 69))) s.heap.size) args s 0 0 (tc_A tcx G s.heap.size)) 0 0 v 90 [some (.ref (tc_ad G 56)), some (.int c0), some (.int (nI q)), z3, z4] [] := by
    intro l0 o0 nxt d
    induction d with
    | zero =>
      intro q v c0 z3 z4 hd hF hI hQ
      have hq : q = n := by omega
      subst hq
      have hv1 : v 56 1 = nI q := by rw [hF 56 (by omega)]; exact hs
      have h82 := nxt v c0 (some (.int (nI q))) z3 z4 hF hI hQ
      refine tv_iload_n (pc := 90) dD_findCarriers_90 (by rfl) ?_
      refine tv_aload_n (pc := 91) dD_findCarriers_91 (by rfl) ?_
      refine tv_getI (pc := 92) 1 tb_56 (by rfl) uwD_ (by decide) wm_663 (by rfl) dD_findCarriers_92 ?_
      refine tv_icmp_ge (pc := 95) 156 dD_findCarriers_95 (by decide) (fun _ => ?_) (fun h => absurd (by rw [hv1]; exact Int32.le_refl _) h)
      refine tv_goto (pc := 156) 82 dD_findCarriers_156 (by decide) ?_
      exact h82
    | succ d ih =>
      intro q v c0 z3 z4 hd hF hI hQ
      have hqn : q < n := by omega
      have hv1 : v 56 1 = nI n := by rw [hF 56 (by omega)]; exact hs
      have i17 : tc_ix (nI q) 17 q := tc_ixN (by omega) (by decide)
      have z65 : v 65 q = 1 := by rw [hF 65 (by omega)]; exact hre q hqn
      have p0 := fa_pm hF 0
      have p16 := fa_pm hF 16
      have tle := tp_tg_le (P := pm u 0) hqn
      have hF2 : fa_F u (fc_2 q v) := hF.tr (fa_ps.tr fa_sq)
      have cp := c_D_pass l G v (i := q) (by omega) (by rw [p0]; exact hP q hqn) (by rw [p0]; exact hne q hqn)
      have s1 := c_D_spread l G (cl_ps q v) (q := q + 1) (by omega)
      have t1 := c_D_targetOf l G (fc_2 q v) (n := n) (i := q) (by rw [hF2 56 (by omega)]; exact hs) hn (by omega) (by rw [fa_pm hF2]; exact (hP q hqn).2.2.2.1)
      rw [fa_pm hF2] at t1
      have s2 := c_D_spread l G (fc_2 q v) (q := (tp_tg n (pm u 0) q)) (by omega)
      obtain ⟨J1, J2⟩ := fc_step hn hqn p0 p16 (hP q hqn) (hP1 q hqn) (hne q hqn) hI hQ
      have ha := ih (q + 1) (fc_3 q (tp_tg n (pm u 0) q) v) _ (some (.int (tp_b (fc_c2 q v)))) (some (.int (tp_b (fc_c3 q (tp_tg n (pm u 0) q) v)))) (by omega) (hF2.tr fa_sq) J1 J2
      rw [← nI_1] at ha
      refine tv_iload_n (pc := 90) dD_findCarriers_90 (by rfl) ?_
      refine tv_aload_n (pc := 91) dD_findCarriers_91 (by rfl) ?_
      refine tv_getI (pc := 92) 1 tb_56 (by rfl) uwD_ (by decide) wm_663 (by rfl) dD_findCarriers_92 ?_
      refine tv_icmp_ge (pc := 95) 156 dD_findCarriers_95 (by decide) (fun h => absurd h (by rw [hv1]; exact nI_ge hqn (by omega))) (fun _ => ?_)
      refine tv_aload_n (pc := 98) dD_findCarriers_98 (by rfl) ?_
      refine tv_getR (pc := 99) 11 tb_56 (by rfl) uwD_ (by decide) wm_673 (by rfl) dD_findCarriers_99 ?_
      refine tv_iload_n (pc := 102) dD_findCarriers_102 (by rfl) ?_
      refine tv_zald (pc := 103) tb_65 (by assumption) dD_findCarriers_103 ?_
      refine tv_if_eq (pc := 104) 150 dD_findCarriers_104 (by decide) (fun h => absurd h (by rw [z65]; decide)) (fun _ => ?_)
      refine tv_aload_n (pc := 107) dD_findCarriers_107 (by rfl) ?_
      refine tv_iload_n (pc := 108) dD_findCarriers_108 (by rfl) ?_
      refine tv_callVv (pc := 109) [_] tb_56 (by rfl) cp (kVD_pass wm_841 ⟨by decide, by decide⟩) (by rfl) (Nat.le_of_ble_eq_true rfl) dD_findCarriers_109 ⟨by decide, by decide⟩ ?_
      refine tv_aload_n (pc := 112) dD_findCarriers_112 (by rfl) ?_
      refine tv_iload_n (pc := 113) dD_findCarriers_113 (by rfl) ?_
      refine tv_iconst (v := 1) (pc := 114) dD_findCarriers_114 (by decide) ?_
      refine tv_iadd (pc := 115) dD_findCarriers_115 ?_
      rw [nI_1]
      refine tv_callVi (pc := 116) [_] tb_56 (by rfl) s1 (kVD_spread wm_845 ⟨by decide, by decide⟩) (by rfl) (Nat.le_of_ble_eq_true rfl) dD_findCarriers_116 ⟨by decide, by decide⟩ ?_
      refine tv_istore3 (pc := 119) dD_findCarriers_119 (by rfl) ?_
      refine tv_aload_n (pc := 120) dD_findCarriers_120 (by rfl) ?_
      refine tv_aload_n (pc := 121) dD_findCarriers_121 (by rfl) ?_
      refine tv_iload_n (pc := 122) dD_findCarriers_122 (by rfl) ?_
      refine tv_callVi (pc := 123) [_] tb_56 (by rfl) t1 (kVD_targetOf wm_799 ⟨by decide, by decide⟩) (by rfl) (Nat.le_of_ble_eq_true rfl) dD_findCarriers_123 ⟨by decide, by decide⟩ ?_
      refine tv_callVi (pc := 126) [_] tb_56 (by rfl) s2 (kVD_spread wm_845 ⟨by decide, by decide⟩) (by rfl) (Nat.le_of_ble_eq_true rfl) dD_findCarriers_126 ⟨by decide, by decide⟩ ?_
      refine tv_istore4 (pc := 129) dD_findCarriers_129 (by rfl) ?_
      refine tv_iload_n (pc := 131) dD_findCarriers_131 (by rfl) ?_
      refine tv_if_ne (pc := 132) 144 dD_findCarriers_132 (by decide) (fun h132 => ?_) (fun h132 => ?_)
      · skip
        refine tv_iconst (v := 1) (pc := 144) dD_findCarriers_144 (by decide) ?_
        refine tv_goto (pc := 145) 149 dD_findCarriers_145 (by decide) ?_
        first
        | (have hx : ¬ c0 = 0 := (by assumption)
           rw [tp_b_t (p := ¬ c0 = 0 ∨ fc_c2 q v ∨ fc_c3 q (tp_tg n (pm u 0) q) v) (Or.inl hx)] at ha)
        | (have hx : ¬ tp_b (∃ x, x < 9 ∧ sq_c (cl_ps q v) (q + 1) x) = 0 := (by assumption)
           rw [tp_b_t (p := ¬ c0 = 0 ∨ fc_c2 q v ∨ fc_c3 q (tp_tg n (pm u 0) q) v) (Or.inr (Or.inl (tp_b_p hx)))] at ha)
        | (have hx : ¬ tp_b (∃ x, x < 9 ∧ sq_c (fc_2 q v) (tp_tg n (pm u 0) q) x) = 0 := (by assumption)
           rw [tp_b_t (p := ¬ c0 = 0 ∨ fc_c2 q v ∨ fc_c3 q (tp_tg n (pm u 0) q) v) (Or.inr (Or.inr (tp_b_p hx)))] at ha)
        | (have h0 : c0 = 0 := (by assumption)
           have h1 : tp_b (∃ x, x < 9 ∧ sq_c (cl_ps q v) (q + 1) x) = 0 := (by assumption)
           have h2 : tp_b (∃ x, x < 9 ∧ sq_c (fc_2 q v) (tp_tg n (pm u 0) q) x) = 0 := (by assumption)
           rw [tp_b_f (p := ¬ c0 = 0 ∨ fc_c2 q v ∨ fc_c3 q (tp_tg n (pm u 0) q) v) (fun z => z.elim (fun z => z h0) (fun z => z.elim (tp_b_q h1) (tp_b_q h2)))] at ha)
        refine tv_istore1 (pc := 149) dD_findCarriers_149 (by rfl) ?_
        refine tv_iinc2 (v := 1) (pc := 150) dD_findCarriers_150 (by decide) (by rfl) ?_
        refine tv_goto (pc := 153) 90 dD_findCarriers_153 (by decide) ?_
        exact ha
      · skip
        refine tv_iload_n (pc := 135) dD_findCarriers_135 (by rfl) ?_
        refine tv_if_ne (pc := 136) 144 dD_findCarriers_136 (by decide) (fun h136 => ?_) (fun h136 => ?_)
        · skip
          refine tv_iconst (v := 1) (pc := 144) dD_findCarriers_144 (by decide) ?_
          refine tv_goto (pc := 145) 149 dD_findCarriers_145 (by decide) ?_
          first
          | (have hx : ¬ c0 = 0 := (by assumption)
             rw [tp_b_t (p := ¬ c0 = 0 ∨ fc_c2 q v ∨ fc_c3 q (tp_tg n (pm u 0) q) v) (Or.inl hx)] at ha)
          | (have hx : ¬ tp_b (∃ x, x < 9 ∧ sq_c (cl_ps q v) (q + 1) x) = 0 := (by assumption)
             rw [tp_b_t (p := ¬ c0 = 0 ∨ fc_c2 q v ∨ fc_c3 q (tp_tg n (pm u 0) q) v) (Or.inr (Or.inl (tp_b_p hx)))] at ha)
          | (have hx : ¬ tp_b (∃ x, x < 9 ∧ sq_c (fc_2 q v) (tp_tg n (pm u 0) q) x) = 0 := (by assumption)
             rw [tp_b_t (p := ¬ c0 = 0 ∨ fc_c2 q v ∨ fc_c3 q (tp_tg n (pm u 0) q) v) (Or.inr (Or.inr (tp_b_p hx)))] at ha)
          | (have h0 : c0 = 0 := (by assumption)
             have h1 : tp_b (∃ x, x < 9 ∧ sq_c (cl_ps q v) (q + 1) x) = 0 := (by assumption)
             have h2 : tp_b (∃ x, x < 9 ∧ sq_c (fc_2 q v) (tp_tg n (pm u 0) q) x) = 0 := (by assumption)
             rw [tp_b_f (p := ¬ c0 = 0 ∨ fc_c2 q v ∨ fc_c3 q (tp_tg n (pm u 0) q) v) (fun z => z.elim (fun z => z h0) (fun z => z.elim (tp_b_q h1) (tp_b_q h2)))] at ha)
          refine tv_istore1 (pc := 149) dD_findCarriers_149 (by rfl) ?_
          refine tv_iinc2 (v := 1) (pc := 150) dD_findCarriers_150 (by decide) (by rfl) ?_
          refine tv_goto (pc := 153) 90 dD_findCarriers_153 (by decide) ?_
          exact ha
        · skip
          refine tv_iload (pc := 139) dD_findCarriers_139 (by rfl) ?_
          refine tv_if_eq (pc := 141) 148 dD_findCarriers_141 (by decide) (fun h141 => ?_) (fun h141 => ?_)
          · skip
            refine tv_iconst (v := 0) (pc := 148) dD_findCarriers_148 (by decide) ?_
            first
            | (have hx : ¬ c0 = 0 := (by assumption)
               rw [tp_b_t (p := ¬ c0 = 0 ∨ fc_c2 q v ∨ fc_c3 q (tp_tg n (pm u 0) q) v) (Or.inl hx)] at ha)
            | (have hx : ¬ tp_b (∃ x, x < 9 ∧ sq_c (cl_ps q v) (q + 1) x) = 0 := (by assumption)
               rw [tp_b_t (p := ¬ c0 = 0 ∨ fc_c2 q v ∨ fc_c3 q (tp_tg n (pm u 0) q) v) (Or.inr (Or.inl (tp_b_p hx)))] at ha)
            | (have hx : ¬ tp_b (∃ x, x < 9 ∧ sq_c (fc_2 q v) (tp_tg n (pm u 0) q) x) = 0 := (by assumption)
               rw [tp_b_t (p := ¬ c0 = 0 ∨ fc_c2 q v ∨ fc_c3 q (tp_tg n (pm u 0) q) v) (Or.inr (Or.inr (tp_b_p hx)))] at ha)
            | (have h0 : c0 = 0 := (by assumption)
               have h1 : tp_b (∃ x, x < 9 ∧ sq_c (cl_ps q v) (q + 1) x) = 0 := (by assumption)
               have h2 : tp_b (∃ x, x < 9 ∧ sq_c (fc_2 q v) (tp_tg n (pm u 0) q) x) = 0 := (by assumption)
               rw [tp_b_f (p := ¬ c0 = 0 ∨ fc_c2 q v ∨ fc_c3 q (tp_tg n (pm u 0) q) v) (fun z => z.elim (fun z => z h0) (fun z => z.elim (tp_b_q h1) (tp_b_q h2)))] at ha)
            refine tv_istore1 (pc := 149) dD_findCarriers_149 (by rfl) ?_
            refine tv_iinc2 (v := 1) (pc := 150) dD_findCarriers_150 (by decide) (by rfl) ?_
            refine tv_goto (pc := 153) 90 dD_findCarriers_153 (by decide) ?_
            exact ha
          · skip
            refine tv_iconst (v := 1) (pc := 144) dD_findCarriers_144 (by decide) ?_
            refine tv_goto (pc := 145) 149 dD_findCarriers_145 (by decide) ?_
            first
            | (have hx : ¬ c0 = 0 := (by assumption)
               rw [tp_b_t (p := ¬ c0 = 0 ∨ fc_c2 q v ∨ fc_c3 q (tp_tg n (pm u 0) q) v) (Or.inl hx)] at ha)
            | (have hx : ¬ tp_b (∃ x, x < 9 ∧ sq_c (cl_ps q v) (q + 1) x) = 0 := (by assumption)
               rw [tp_b_t (p := ¬ c0 = 0 ∨ fc_c2 q v ∨ fc_c3 q (tp_tg n (pm u 0) q) v) (Or.inr (Or.inl (tp_b_p hx)))] at ha)
            | (have hx : ¬ tp_b (∃ x, x < 9 ∧ sq_c (fc_2 q v) (tp_tg n (pm u 0) q) x) = 0 := (by assumption)
               rw [tp_b_t (p := ¬ c0 = 0 ∨ fc_c2 q v ∨ fc_c3 q (tp_tg n (pm u 0) q) v) (Or.inr (Or.inr (tp_b_p hx)))] at ha)
            | (have h0 : c0 = 0 := (by assumption)
               have h1 : tp_b (∃ x, x < 9 ∧ sq_c (cl_ps q v) (q + 1) x) = 0 := (by assumption)
               have h2 : tp_b (∃ x, x < 9 ∧ sq_c (fc_2 q v) (tp_tg n (pm u 0) q) x) = 0 := (by assumption)
               rw [tp_b_f (p := ¬ c0 = 0 ∨ fc_c2 q v ∨ fc_c3 q (tp_tg n (pm u 0) q) v) (fun z => z.elim (fun z => z h0) (fun z => z.elim (tp_b_q h1) (tp_b_q h2)))] at ha)
            refine tv_istore1 (pc := 149) dD_findCarriers_149 (by rfl) ?_
            refine tv_iinc2 (v := 1) (pc := 150) dD_findCarriers_150 (by decide) (by rfl) ?_
            refine tv_goto (pc := 153) 90 dD_findCarriers_153 (by decide) ?_
            exact ha
  have outer : ∀ (M : Nat) (v : tc_S) (c0 : Int32) (z2 z3 z4 : Option Value), fa_F u v → fc_I n (pm u 0) (pm u 16) (v 68) (v 69) → (c0 = 0 → ∀ i, i < n → fc_C n (pm u 0) (pm u 16) (v 68) (v 69) i) → (¬ c0 = 0 → fc_z (v 68) (v 69) 153 < M) → tc_V tcx G p l e r0D_findCarriers s m args below meth c bD_findCarriers 5 tw "TracedCodeModel" none [] (MQ below (tc_Qc tcx G (tc_KV (fun v => fa_F u v ∧ fc_R n (pm u 0) (pm u 16) (v 68) (v 69))) s.heap.size) args s 0 0 (tc_A tcx G s.heap.size)) 0 0 v 82 [some (.ref (tc_ad G 56)), some (.int c0), z2, z3, z4] [] := by
    intro M
    induction M with
    | zero =>
      intro v c0 z2 z3 z4 hF hI h0 h1
      have hc : c0 = 0 := Classical.byContradiction fun q => absurd (h1 q) (by omega)
      refine tv_iload_n (pc := 82) dD_findCarriers_82 (by rfl) ?_
      refine tv_if_eq (pc := 83) 159 dD_findCarriers_83 (by decide) (fun _ => ?_) (fun h => absurd hc h)
      exact tv_vret (pc := 159) dD_findCarriers_159 rfl (Nat.le_refl _) (Nat.le_refl _) ⟨rfl, hF, fc_end hn hP hP1 hne hI (h0 hc)⟩
    | succ M ih =>
      intro v c0 z2 z3 z4 hF hI h0 h1
      by_cases hc : c0 = 0
      · skip
        refine tv_iload_n (pc := 82) dD_findCarriers_82 (by rfl) ?_
        refine tv_if_eq (pc := 83) 159 dD_findCarriers_83 (by decide) (fun _ => ?_) (fun h => absurd hc h)
        exact tv_vret (pc := 159) dD_findCarriers_159 rfl (Nat.le_refl _) (Nat.le_refl _) ⟨rfl, hF, fc_end hn hP hP1 hne hI (h0 hc)⟩
      · have hM := h1 hc
        have hin := inner (v 68) (v 69) (fun w c1 z2 z3 z4 hF1 hI1 hQ1 => ih w c1 z2 z3 z4 hF1 hI1 (fun hc1 => by
          rcases hQ1.2 with ⟨-, e8, e9, hC⟩ | ⟨e1, -⟩
          · rw [e8, e9]; exact hC
          · rw [hc1] at e1; exact absurd e1 (by decide)) (fun hc1 => by
          rcases hQ1.2 with ⟨e1, -⟩ | ⟨-, hz⟩
          · exact absurd e1 hc1
          · omega)) n 0 v 0 z3 z4 (by omega) hF hI ⟨Nat.le_refl _, Or.inl ⟨rfl, rfl, rfl, fun i hi => absurd hi (by omega)⟩⟩
        refine tv_iload_n (pc := 82) dD_findCarriers_82 (by rfl) ?_
        refine tv_if_eq (pc := 83) 159 dD_findCarriers_83 (by decide) (fun h => absurd h hc) (fun _ => ?_)
        refine tv_iconst (v := 0) (pc := 86) dD_findCarriers_86 (by decide) ?_
        refine tv_istore1 (pc := 87) dD_findCarriers_87 (by rfl) ?_
        refine tv_iconst (v := 0) (pc := 88) dD_findCarriers_88 (by decide) ?_
        refine tv_istore2 (pc := 89) dD_findCarriers_89 (by rfl) ?_
        exact hin
  have second : ∀ (d q : Nat) (v : tc_S), q + d = 9 → fa_F u v → (∀ k, k < 153 → v 68 k = (if k < q then (if k < 6 then 0 else 63) else 0) ∧ v 69 k = (if k < q then (if k < 6 then 65536 else 131072) else 0)) → tc_V tcx G p l e r0D_findCarriers s m args below meth c bD_findCarriers 5 tw "TracedCodeModel" none [] (MQ below (tc_Qc tcx G (tc_KV (fun v => fa_F u v ∧ fc_R n (pm u 0) (pm u 16) (v 68) (v 69))) s.heap.size) args s 0 0 (tc_A tcx G s.heap.size)) 0 0 v 31 [some (.ref (tc_ad G 56)), some (.int (nI q)), none, none, none] [] := by
    intro d
    induction d with
    | zero =>
      intro q v hd hF hA
      have hq : q = 9 := by omega
      subst hq
      have ho := outer (fc_z (v 68) (v 69) 153 + 1) v 1 none none none hF (fc_init hn (fun k hk => (hA k hk).1) (fun k hk => (hA k hk).2)) (fun z => absurd z (by decide)) (fun _ => by omega)
      refine tv_iload_n (pc := 31) dD_findCarriers_31 (by rfl) ?_
      refine tv_bipush (v := 9) (pc := 32) dD_findCarriers_32 (by decide) ?_
      refine tv_icmp_ge (pc := 34) 80 dD_findCarriers_34 (by decide) (fun _ => ?_) (fun h => absurd (by decide) h)
      refine tv_iconst (v := 1) (pc := 80) dD_findCarriers_80 (by decide) ?_
      refine tv_istore1 (pc := 81) dD_findCarriers_81 (by rfl) ?_
      exact ho
    | succ d ih =>
      intro q v hd hF hA
      have hq153 : tc_ix (nI q) 153 q := tc_ixN (by omega) (by decide)
      have nx : ∀ x y : Int32, x = (if q < 6 then 0 else 63) → y = (if q < 6 then 65536 else 131072) → tc_V tcx G p l e r0D_findCarriers s m args below meth c bD_findCarriers 5 tw "TracedCodeModel" none [] (MQ below (tc_Qc tcx G (tc_KV (fun v => fa_F u v ∧ fc_R n (pm u 0) (pm u 16) (v 68) (v 69))) s.heap.size) args s 0 0 (tc_A tcx G s.heap.size)) 0 0 (tc_up (tc_up v 68 q x) 69 q y) 31 [some (.ref (tc_ad G 56)), some (.int (nI (q + 1))), none, none, none] [] := by
        intro x y hx hy
        refine ih (q + 1) _ (by omega) (fa_up (fa_up hF (by omega)) (by omega)) (fun k hk => ?_)
        have := hA k hk
        constructor
        · rw [tc_up_ne (by decide), tc_up_v, if_pos rfl]
          by_cases e : k = q
          · rw [if_pos e, if_pos (by omega), e]; exact hx
          · rw [if_neg e, this.1]
            by_cases z : k < q
            · rw [if_pos z, if_pos (show k < q + 1 by omega)]
            · rw [if_neg z, if_neg (show ¬ k < q + 1 by omega)]
        · rw [tc_up_v, if_pos rfl, tc_up_ne (by decide)]
          by_cases e : k = q
          · rw [if_pos e, if_pos (by omega), e]; exact hy
          · rw [if_neg e, this.2]
            by_cases z : k < q
            · rw [if_pos z, if_pos (show k < q + 1 by omega)]
            · rw [if_neg z, if_neg (show ¬ k < q + 1 by omega)]
      by_cases h6 : q < 6
      · have ha := nx 0 65536 (if_pos h6).symm (if_pos h6).symm
        rw [← nI_1] at ha
        refine tv_iload_n (pc := 31) dD_findCarriers_31 (by rfl) ?_
        refine tv_bipush (v := 9) (pc := 32) dD_findCarriers_32 (by decide) ?_
        refine tv_icmp_ge (pc := 34) 80 dD_findCarriers_34 (by decide) (fun h => absurd h (nI_lt9 (by omega))) (fun _ => ?_)
        refine tv_aload_n (pc := 37) dD_findCarriers_37 (by rfl) ?_
        refine tv_getR (pc := 38) 15 tb_56 (by rfl) uwD_ (by decide) wm_677 (by rfl) dD_findCarriers_38 ?_
        refine tv_iload_n (pc := 41) dD_findCarriers_41 (by rfl) ?_
        refine tv_iload_n (pc := 42) dD_findCarriers_42 (by rfl) ?_
        refine tv_bipush (v := 6) (pc := 43) dD_findCarriers_43 (by decide) ?_
        refine tv_icmp_ge (pc := 45) 52 dD_findCarriers_45 (by decide) (fun h => absurd h (nI_lt6 h6)) (fun _ => ?_)
        refine tv_iconst (v := 0) (pc := 48) dD_findCarriers_48 (by decide) ?_
        refine tv_goto (pc := 49) 54 dD_findCarriers_49 (by decide) ?_
        refine tv_iast (pc := 54) tb_68 hq153 dD_findCarriers_54 ?_
        refine tv_aload_n (pc := 55) dD_findCarriers_55 (by rfl) ?_
        refine tv_getR (pc := 56) 16 tb_56 (by rfl) uwD_ (by decide) wm_678 (by rfl) dD_findCarriers_56 ?_
        refine tv_iload_n (pc := 59) dD_findCarriers_59 (by rfl) ?_
        refine tv_iload_n (pc := 60) dD_findCarriers_60 (by rfl) ?_
        refine tv_bipush (v := 6) (pc := 61) dD_findCarriers_61 (by decide) ?_
        refine tv_icmp_ge (pc := 63) 71 dD_findCarriers_63 (by decide) (fun h => absurd h (nI_lt6 h6)) (fun _ => ?_)
        refine tv_ldc (pc := 66)  wm_839 dD_findCarriers_66 ?_
        refine tv_goto (pc := 68) 73 dD_findCarriers_68 (by decide) ?_
        refine tv_iast (pc := 73) tb_69 hq153 dD_findCarriers_73 ?_
        refine tv_iinc1 (v := 1) (pc := 74) dD_findCarriers_74 (by decide) (by rfl) ?_
        refine tv_goto (pc := 77) 31 dD_findCarriers_77 (by decide) ?_
        exact ha
      · have ha := nx 63 131072 (if_neg h6).symm (if_neg h6).symm
        rw [← nI_1] at ha
        refine tv_iload_n (pc := 31) dD_findCarriers_31 (by rfl) ?_
        refine tv_bipush (v := 9) (pc := 32) dD_findCarriers_32 (by decide) ?_
        refine tv_icmp_ge (pc := 34) 80 dD_findCarriers_34 (by decide) (fun h => absurd h (nI_lt9 (by omega))) (fun _ => ?_)
        refine tv_aload_n (pc := 37) dD_findCarriers_37 (by rfl) ?_
        refine tv_getR (pc := 38) 15 tb_56 (by rfl) uwD_ (by decide) wm_677 (by rfl) dD_findCarriers_38 ?_
        refine tv_iload_n (pc := 41) dD_findCarriers_41 (by rfl) ?_
        refine tv_iload_n (pc := 42) dD_findCarriers_42 (by rfl) ?_
        refine tv_bipush (v := 6) (pc := 43) dD_findCarriers_43 (by decide) ?_
        refine tv_icmp_ge (pc := 45) 52 dD_findCarriers_45 (by decide) (fun _ => ?_) (fun h => absurd (nI_le (a := 6) (by omega) (by omega)) h)
        refine tv_bipush (v := 63) (pc := 52) dD_findCarriers_52 (by decide) ?_
        refine tv_iast (pc := 54) tb_68 hq153 dD_findCarriers_54 ?_
        refine tv_aload_n (pc := 55) dD_findCarriers_55 (by rfl) ?_
        refine tv_getR (pc := 56) 16 tb_56 (by rfl) uwD_ (by decide) wm_678 (by rfl) dD_findCarriers_56 ?_
        refine tv_iload_n (pc := 59) dD_findCarriers_59 (by rfl) ?_
        refine tv_iload_n (pc := 60) dD_findCarriers_60 (by rfl) ?_
        refine tv_bipush (v := 6) (pc := 61) dD_findCarriers_61 (by decide) ?_
        refine tv_icmp_ge (pc := 63) 71 dD_findCarriers_63 (by decide) (fun _ => ?_) (fun h => absurd (nI_le (a := 6) (by omega) (by omega)) h)
        refine tv_ldc (pc := 71)  wm_840 dD_findCarriers_71 ?_
        refine tv_iast (pc := 73) tb_69 hq153 dD_findCarriers_73 ?_
        refine tv_iinc1 (v := 1) (pc := 74) dD_findCarriers_74 (by decide) (by rfl) ?_
        refine tv_goto (pc := 77) 31 dD_findCarriers_77 (by decide) ?_
        exact ha
  have first : ∀ (d q : Nat) (v : tc_S), q + d = 153 → fa_F u v → (∀ k, k < q → v 68 k = 0 ∧ v 69 k = 0) → tc_V tcx G p l e r0D_findCarriers s m args below meth c bD_findCarriers 5 tw "TracedCodeModel" none [] (MQ below (tc_Qc tcx G (tc_KV (fun v => fa_F u v ∧ fc_R n (pm u 0) (pm u 16) (v 68) (v 69))) s.heap.size) args s 0 0 (tc_A tcx G s.heap.size)) 0 0 v 2 [some (.ref (tc_ad G 56)), some (.int (nI q)), none, none, none] [] := by
    intro d
    induction d with
    | zero =>
      intro q v hd hF hA
      have hq : q = 153 := by omega
      subst hq
      have ho := second 9 0 v (by omega) hF (fun k hk => ⟨by rw [if_neg (by omega)]; exact (hA k hk).1, by rw [if_neg (by omega)]; exact (hA k hk).2⟩)
      refine tv_iload_n (pc := 2) dD_findCarriers_2 (by rfl) ?_
      refine tv_sipush (v := 153) (pc := 3) dD_findCarriers_3 (by decide) ?_
      refine tv_icmp_ge (pc := 6) 29 dD_findCarriers_6 (by decide) (fun _ => ?_) (fun h => absurd (by decide) h)
      refine tv_iconst (v := 0) (pc := 29) dD_findCarriers_29 (by decide) ?_
      refine tv_istore1 (pc := 30) dD_findCarriers_30 (by rfl) ?_
      exact ho
    | succ d ih =>
      intro q v hd hF hA
      have hq153 : tc_ix (nI q) 153 q := tc_ixN (by omega) (by decide)
      have ha := ih (q + 1) (tc_up (tc_up v 68 q 0) 69 q 0) (by omega) (fa_up (fa_up hF (by omega)) (by omega)) (fun k hk => by
        constructor
        · rw [tc_up_ne (by decide), tc_up_v, if_pos rfl]
          by_cases e : k = q
          · rw [if_pos e]
          · rw [if_neg e]; exact (hA k (by omega)).1
        · rw [tc_up_v, if_pos rfl, tc_up_ne (by decide)]
          by_cases e : k = q
          · rw [if_pos e]
          · rw [if_neg e]; exact (hA k (by omega)).2)
      rw [← nI_1] at ha
      refine tv_iload_n (pc := 2) dD_findCarriers_2 (by rfl) ?_
      refine tv_sipush (v := 153) (pc := 3) dD_findCarriers_3 (by decide) ?_
      refine tv_icmp_ge (pc := 6) 29 dD_findCarriers_6 (by decide) (fun h => absurd h (nI_ge (b := 153) (by omega) (by decide))) (fun _ => ?_)
      refine tv_aload_n (pc := 9) dD_findCarriers_9 (by rfl) ?_
      refine tv_getR (pc := 10) 15 tb_56 (by rfl) uwD_ (by decide) wm_677 (by rfl) dD_findCarriers_10 ?_
      refine tv_iload_n (pc := 13) dD_findCarriers_13 (by rfl) ?_
      refine tv_iconst (v := 0) (pc := 14) dD_findCarriers_14 (by decide) ?_
      refine tv_iast (pc := 15) tb_68 hq153 dD_findCarriers_15 ?_
      refine tv_aload_n (pc := 16) dD_findCarriers_16 (by rfl) ?_
      refine tv_getR (pc := 17) 16 tb_56 (by rfl) uwD_ (by decide) wm_678 (by rfl) dD_findCarriers_17 ?_
      refine tv_iload_n (pc := 20) dD_findCarriers_20 (by rfl) ?_
      refine tv_iconst (v := 0) (pc := 21) dD_findCarriers_21 (by decide) ?_
      refine tv_iast (pc := 22) tb_69 hq153 dD_findCarriers_22 ?_
      refine tv_iinc1 (v := 1) (pc := 23) dD_findCarriers_23 (by decide) (by rfl) ?_
      refine tv_goto (pc := 26) 2 dD_findCarriers_26 (by decide) ?_
      exact ha
  refine tv_iconst (v := 0) (pc := 0) dD_findCarriers_0 (by decide) ?_
  refine tv_istore1 (pc := 1) dD_findCarriers_1 (by rfl) ?_
  exact first 153 0 u (by omega) fa_F.rf (fun k hk => absurd hk (by omega))
/-- a run of the model begins -/
def bg_ (u : tc_S) : tc_S := tc_row (tc_row (tc_up (tc_up (tc_up u 56 19 0) 56 20 0) 56 24 0) 72 (fun _ => 0) 12) 74 (fun _ => 0) 3
set_option maxRecDepth 100000 in
set_option maxHeartbeats 4000000 in
theorem c_D_begin (l : Launch) (G : tc_G) (u : tc_S)  : tc_C tcx G l yD_begin wD_begin r0D_begin 0 0 [.ref (tc_ad G 56)] u (tc_Kv (bg_ u)) := by
  refine tw_ofV (own := "TracedCodeModel") [some (.ref (tc_ad G 56)), none] (by decide +kernel) rfl (Nat.le_of_ble_eq_true rfl) (by rfl) (fun p e s m args below meth c => ?_)
  have l2 : tc_V tcx G p l e r0D_begin s m args below meth c bD_begin 2 tw "TracedCodeModel" none [] (MQ below (tc_Qc tcx G (tc_Kv (bg_ u)) s.heap.size) args s 0 0 (tc_A tcx G s.heap.size)) 0 0 (tc_row (tc_row (tc_up (tc_up (tc_up u 56 19 0) 56 20 0) 56 24 0) 72 (fun _ => 0) 12) 74 (fun _ => 0) 0) 38 [some (.ref (tc_ad G 56)), some (.int (nI 0))] [] := by
    refine tv_down (P := fun i => tc_V tcx G p l e r0D_begin s m args below meth c bD_begin 2 tw "TracedCodeModel" none [] (MQ below (tc_Qc tcx G (tc_Kv (bg_ u)) s.heap.size) args s 0 0 (tc_A tcx G s.heap.size)) 0 0 (tc_row (tc_row (tc_up (tc_up (tc_up u 56 19 0) 56 20 0) 56 24 0) 72 (fun _ => 0) 12) 74 (fun _ => 0) i) 38 [some (.ref (tc_ad G 56)), some (.int (nI i))] []) 3 ?_ ?_
    · skip
      refine tv_iload_n (pc := 38) dD_begin_38 (by rfl) ?_
      refine tv_iconst (v := 3) (pc := 39) dD_begin_39 (by decide) ?_
      refine tv_icmp_ge (pc := 40) 56 dD_begin_40 (by decide) (fun _ => ?_) (fun h => absurd (by decide) h)
      exact tv_vret (pc := 56) dD_begin_56 rfl (Nat.le_refl _) (Nat.le_refl _) ⟨rfl, rfl⟩
    · intro i hiN ih
      have hi3 : tc_ix (nI i) 3 i := tc_ixN hiN (by decide)
      rw [← tc_row_s (i := i) (be := 74) (f := fun _ => 0), ← nI_1] at ih
      refine tv_iload_n (pc := 38) dD_begin_38 (by rfl) ?_
      refine tv_iconst (v := 3) (pc := 39) dD_begin_39 (by decide) ?_
      refine tv_icmp_ge (pc := 40) 56 dD_begin_40 (by decide) (fun h => absurd h (nI_lt3 hiN)) (fun _ => ?_)
      refine tv_aload_n (pc := 43) dD_begin_43 (by rfl) ?_
      refine tv_getR (pc := 44) 23 tb_56 (by rfl) uwD_ (by decide) wm_685 (by rfl) dD_begin_44 ?_
      refine tv_iload_n (pc := 47) dD_begin_47 (by rfl) ?_
      refine tv_iconst (v := 0) (pc := 48) dD_begin_48 (by decide) ?_
      refine tv_zast (pc := 49) tb_74 hi3 (by rfl) dD_begin_49 ?_
      refine tv_iinc1 (v := 1) (pc := 50) dD_begin_50 (by decide) (by rfl) ?_
      refine tv_goto (pc := 53) 38 dD_begin_53 (by decide) ?_
      exact ih
  rw [tc_row_0] at l2
  have l1 : tc_V tcx G p l e r0D_begin s m args below meth c bD_begin 2 tw "TracedCodeModel" none [] (MQ below (tc_Qc tcx G (tc_Kv (bg_ u)) s.heap.size) args s 0 0 (tc_A tcx G s.heap.size)) 0 0 (tc_row (tc_up (tc_up (tc_up u 56 19 0) 56 20 0) 56 24 0) 72 (fun _ => 0) 0) 17 [some (.ref (tc_ad G 56)), some (.int (nI 0))] [] := by
    refine tv_down (P := fun i => tc_V tcx G p l e r0D_begin s m args below meth c bD_begin 2 tw "TracedCodeModel" none [] (MQ below (tc_Qc tcx G (tc_Kv (bg_ u)) s.heap.size) args s 0 0 (tc_A tcx G s.heap.size)) 0 0 (tc_row (tc_up (tc_up (tc_up u 56 19 0) 56 20 0) 56 24 0) 72 (fun _ => 0) i) 17 [some (.ref (tc_ad G 56)), some (.int (nI i))] []) 12 ?_ ?_
    · skip
      refine tv_iload_n (pc := 17) dD_begin_17 (by rfl) ?_
      refine tv_bipush (v := 12) (pc := 18) dD_begin_18 (by decide) ?_
      refine tv_icmp_ge (pc := 20) 36 dD_begin_20 (by decide) (fun _ => ?_) (fun h => absurd (by decide) h)
      refine tv_iconst (v := 0) (pc := 36) dD_begin_36 (by decide) ?_
      refine tv_istore1 (pc := 37) dD_begin_37 (by rfl) ?_
      exact l2
    · intro i hiN ih
      have hi12 : tc_ix (nI i) 12 i := tc_ixN hiN (by decide)
      rw [← tc_row_s (i := i) (be := 72) (f := fun _ => 0), ← nI_1] at ih
      refine tv_iload_n (pc := 17) dD_begin_17 (by rfl) ?_
      refine tv_bipush (v := 12) (pc := 18) dD_begin_18 (by decide) ?_
      refine tv_icmp_ge (pc := 20) 36 dD_begin_20 (by decide) (fun h => absurd h (nI_ge (b := 12) hiN (by decide))) (fun _ => ?_)
      refine tv_aload_n (pc := 23) dD_begin_23 (by rfl) ?_
      refine tv_getR (pc := 24) 21 tb_56 (by rfl) uwD_ (by decide) wm_683 (by rfl) dD_begin_24 ?_
      refine tv_iload_n (pc := 27) dD_begin_27 (by rfl) ?_
      refine tv_iconst (v := 0) (pc := 28) dD_begin_28 (by decide) ?_
      refine tv_iast (pc := 29) tb_72 hi12 dD_begin_29 ?_
      refine tv_iinc1 (v := 1) (pc := 30) dD_begin_30 (by decide) (by rfl) ?_
      refine tv_goto (pc := 33) 17 dD_begin_33 (by decide) ?_
      exact ih
  rw [tc_row_0] at l1
  refine tv_aload_n (pc := 0) dD_begin_0 (by rfl) ?_
  refine tv_iconst (v := 0) (pc := 1) dD_begin_1 (by decide) ?_
  refine tv_putI (ty := .int) (pc := 2) 19 tyD_ tb_56 (by rfl) uwD_ (by decide) wm_681 okD_ nmD_ (by rfl) (by decide +kernel) (by rfl) (by rfl) (by rfl) dD_begin_2 ?_
  refine tv_aload_n (pc := 5) dD_begin_5 (by rfl) ?_
  refine tv_iconst (v := 0) (pc := 6) dD_begin_6 (by decide) ?_
  refine tv_putI (ty := .int) (pc := 7) 20 tyD_ tb_56 (by rfl) uwD_ (by decide) wm_682 okD_ nmD_ (by rfl) (by decide +kernel) (by rfl) (by rfl) (by rfl) dD_begin_7 ?_
  refine tv_aload_n (pc := 10) dD_begin_10 (by rfl) ?_
  refine tv_iconst (v := 0) (pc := 11) dD_begin_11 (by decide) ?_
  refine tv_putI (ty := .int) (pc := 12) 24 tyD_ tb_56 (by rfl) uwD_ (by decide) wm_686 okD_ nmD_ (by rfl) (by decide +kernel) (by rfl) (by rfl) (by rfl) dD_begin_12 ?_
  refine tv_iconst (v := 0) (pc := 15) dD_begin_15 (by decide) ?_
  refine tv_istore1 (pc := 16) dD_begin_16 (by rfl) ?_
  exact l1
