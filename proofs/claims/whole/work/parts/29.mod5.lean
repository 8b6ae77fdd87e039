def ps_F (u v : tc_S) : Prop := (∀ q, q < 56 ∨ q = 64 ∨ q = 65 ∨ 68 ≤ q → v q = u q) ∧ (∀ j, j ≠ 14 → v 56 j = u 56 j) ∧ ∀ j i, j < 4 → i < 16 → v (57 + j) i = u (57 + j) i
theorem ps_nr {u v : tc_S} (h : nr_F u v) : ps_F u v := ⟨fun q hq => h.1 q (by omega), h.2, fun j i hj _ => by rw [h.1 (57 + j) (by omega)]⟩
theorem ps_up {u v : tc_S} {j i : Nat} {x : Int32} (h : ps_F u v) (hj : j < 4) (hi : 16 ≤ i) : ps_F u (tc_up v (57 + j) i x) := by
  refine ⟨fun q hq => ?_, fun j' hj' => ?_, fun j' i' h1 h2 => ?_⟩
  · rw [tc_up_ne (by omega)]; exact h.1 q hq
  · rw [tc_up_ne (by omega)]; exact h.2.1 j' hj'
  · rw [tc_up_v]
    by_cases e : 57 + j' = 57 + j
    · rw [if_pos e, if_neg (by omega), ← e]; exact h.2.2 j' i' h1 h2
    · rw [if_neg e]; exact h.2.2 j' i' h1 h2
theorem pm_up {v : tc_S} {j0 p j i : Nat} {x : Int32} (h0 : j0 < 4) (hj : j < 4) : pm (tc_up v (57 + j0) (16 + p) x) 16 j i = if j = j0 ∧ i = p then x else pm v 16 j i := by
  rw [pm_of hj, pm_of hj, tc_up_v]
  by_cases e : j = j0
  · subst e
    rw [if_pos rfl]
    by_cases e2 : i = p
    · subst e2; rw [if_pos rfl, if_pos ⟨rfl, rfl⟩]
    · rw [if_neg (by omega), if_neg (fun q => e2 q.2)]
  · rw [if_neg (by omega), if_neg (fun q => e q.1)]
def ps_c (n : Nat) (P : tp_P) (i : Nat) : Prop := (∃ j, j < 4 ∧ tp_q n P j i) ∨ tp_e1 n P i
noncomputable def ps_w (x1 x2 x3 : Int32) (p : Nat) (v : tc_S) : tc_S := tc_up (tc_up (tc_up v 58 (16 + p) x1) 59 (16 + p) x2) 60 (16 + p) x3
theorem ps_w_pm {x1 x2 x3 : Int32} {p j i : Nat} {v : tc_S} (hj : j < 4) : pm (ps_w x1 x2 x3 p v) 16 j i = if i = p ∧ j ≠ 0 then (if j = 1 then x1 else if j = 2 then x2 else x3) else pm v 16 j i := by
  unfold ps_w
  rw [pm_up (j0 := 3) (by decide) hj, pm_up (j0 := 2) (by decide) hj, pm_up (j0 := 1) (by decide) hj]
  have : j = 0 ∨ j = 1 ∨ j = 2 ∨ j = 3 := by omega
  by_cases e : i = p <;> rcases this with rfl | rfl | rfl | rfl <;> simp [e]
theorem ps_w_F {u v : tc_S} {x1 x2 x3 : Int32} {p : Nat} (h : ps_F u v) : ps_F u (ps_w x1 x2 x3 p v) := ps_up (j := 3) (ps_up (j := 2) (ps_up (j := 1) h (by decide) (by omega)) (by decide) (by omega)) (by decide) (by omega)
theorem ps_w_o {v : tc_S} {x1 x2 x3 : Int32} {p q : Nat} (h : q = 57 ∨ 61 ≤ q ∨ q ≤ 56) : ps_w x1 x2 x3 p v q = v q := by
  unfold ps_w
  rw [tc_up_ne (by omega), tc_up_ne (by omega), tc_up_ne (by omega)]
theorem sd_me_pm {p j i : Nat} {v : tc_S} (hj : j < 4) : pm (sd_me p v) 16 j i = if i = p then (if j = 0 then -1 else 0) else pm v 16 j i := by
  unfold sd_me
  rw [pm_up (j0 := 3) (by decide) hj, pm_up (j0 := 2) (by decide) hj, pm_up (j0 := 1) (by decide) hj, pm_up (j0 := 0) (by decide) hj]
  have : j = 0 ∨ j = 1 ∨ j = 2 ∨ j = 3 := by omega
  by_cases e : i = p <;> rcases this with rfl | rfl | rfl | rfl <;> simp [e]
theorem sd_me_F {u v : tc_S} {p : Nat} (h : ps_F u v) : ps_F u (sd_me p v) := ps_up (j := 3) (ps_up (j := 2) (ps_up (j := 1) (ps_up (j := 0) h (by decide) (by omega)) (by decide) (by omega)) (by decide) (by omega)) (by decide) (by omega)
theorem sd_me_o {v : tc_S} {p q : Nat} (h : 61 ≤ q ∨ q ≤ 56) : sd_me p v q = v q := by
  unfold sd_me
  rw [tc_up_ne (by omega), tc_up_ne (by omega), tc_up_ne (by omega), tc_up_ne (by omega)]
/-- the last walk over the lines -/
def ps_Q (n : Nat) (u : tc_S) (p : Nat) (v : tc_S) : Prop := ps_F u v ∧ (∀ i, i < n → v 63 i = tp_p1 n (pm u 16) 1 i ∧ v 61 i = tp_p1 n (pm u 16) 2 i ∧ v 62 i = tp_p1 n (pm u 16) 3 i) ∧ ∀ j i, j < 4 → i < n → pm v 16 j i = if i < p then tp_pass n (pm u 16) j i else pm u 16 j i
theorem ps_Q_w {n : Nat} {u v : tc_S} {p : Nat} (hp : p < n) (h : ps_Q n u p v) (he : ¬ tp_e1 n (pm u 16) p) : ps_Q n u (p + 1) (ps_w (tp_p1 n (pm u 16) 1 p) (tp_p1 n (pm u 16) 2 p) (tp_p1 n (pm u 16) 3 p) p v) := by
  refine ⟨ps_w_F h.1, fun i hi => ?_, fun j i hj hi => ?_⟩
  · rw [ps_w_o (by omega), ps_w_o (by omega), ps_w_o (by omega)]; exact h.2.1 i hi
  · rw [ps_w_pm hj]
    by_cases e : i = p
    · subst e
      rw [if_pos (show i < i + 1 by omega), tp_pass_n hi hj he]
      have : j = 0 ∨ j = 1 ∨ j = 2 ∨ j = 3 := by omega
      rcases this with rfl | rfl | rfl | rfl
      · rw [if_neg (by simp), h.2.2 0 i (by omega) hi, if_neg (by omega), tp_p1_0]
      · simp
      · simp
      · simp
    · rw [if_neg (fun q => e q.1), h.2.2 j i hj hi]
      by_cases q : i < p
      · rw [if_pos q, if_pos (by omega)]
      · rw [if_neg q, if_neg (by omega)]
theorem ps_Q_e {n : Nat} {u v : tc_S} {p : Nat} {x1 x2 x3 : Int32} (hp : p < n) (h : ps_Q n u p v) (he : tp_e1 n (pm u 16) p) : ps_Q n u (p + 1) (sd_me p (ps_w x1 x2 x3 p v)) := by
  refine ⟨sd_me_F (ps_w_F h.1), fun i hi => ?_, fun j i hj hi => ?_⟩
  · rw [sd_me_o (by omega), sd_me_o (by omega), sd_me_o (by omega), ps_w_o (by omega), ps_w_o (by omega), ps_w_o (by omega)]; exact h.2.1 i hi
  · rw [sd_me_pm hj, ps_w_pm hj]
    by_cases e : i = p
    · subst e
      rw [if_pos rfl, if_pos (show i < i + 1 by omega), tp_pass_e hi hj he]
    · rw [if_neg e, if_neg (fun q => e q.1), h.2.2 j i hj hi]
      by_cases q : i < p
      · rw [if_pos q, if_pos (by omega)]
      · rw [if_neg q, if_neg (by omega)]
theorem ex_lt_s {c : Nat → Prop} {p : Nat} : (∃ i, i < p + 1 ∧ c i) ↔ (∃ i, i < p ∧ c i) ∨ c p := by
  constructor
  · rintro ⟨i, hi, h⟩
    by_cases e : i = p
    · exact Or.inr (e ▸ h)
    · exact Or.inl ⟨i, by omega, h⟩
  · rintro (⟨i, hi, h⟩ | h)
    · exact ⟨i, by omega, h⟩
    · exact ⟨p, by omega, h⟩
set_option maxRecDepth 100000 in
set_option maxHeartbeats 4000000 in
theorem c_D_passOn (l : Launch) (G : tc_G) (u : tc_S) {n : Nat} (hs : u 56 1 = nI n) (hn : n ≤ 16) (hP : ∀ i, i < n → tp_line (pm u 0) i) (hP1 : ∀ i, i < n → tp_line (pm u 16) i) (ht : ∀ i, i < n → tp_tg n (pm u 16) i = tp_tg n (pm u 0) i) (hre : ∀ i, i < n → u 65 i = 1) : tc_C tcx G l yD_passOn wD_passOn r0D_passOn 0 0 [.ref (tc_ad G 56)] u (tc_KI (fun r0 v => r0 = tp_b (tp_pch n (pm u 16)) ∧ ps_F u v ∧ ∀ j i, j < 4 → i < n → pm v 16 j i = tp_pass n (pm u 16) j i)) := by
  refine tw_ofV (own := "TracedCodeModel") [some (.ref (tc_ad G 56)), none, none, none] (by decide +kernel) rfl (Nat.le_of_ble_eq_true rfl) (by rfl) (fun p e s m args below meth c => ?_)
  have last : ∀ (d q : Nat) (v : tc_S) (l3 : Option Value), q + d = n → ps_Q n u q v → tc_V tcx G p l e r0D_passOn s m args below meth c bD_passOn 4 tw "TracedCodeModel" (some .boolean) [] (MQ below (tc_Qc tcx G (tc_KI (fun r0 v => r0 = tp_b (tp_pch n (pm u 16)) ∧ ps_F u v ∧ ∀ j i, j < 4 → i < n → pm v 16 j i = tp_pass n (pm u 16) j i)) s.heap.size) args s 0 0 (tc_A tcx G s.heap.size)) 0 0 v 145 [some (.ref (tc_ad G 56)), some (.int (tp_b (∃ i, i < q ∧ ps_c n (pm u 16) i))), some (.int (nI q)), l3] [] := by
    intro d
    induction d with
    | zero =>
      intro q v l3 hd hQ
      have hq : q = n := by omega
      subst hq
      have hv1 : v 56 1 = nI q := by rw [hQ.1.2.1 1 (by decide)]; exact hs
      refine tv_iload_n (pc := 145) dD_passOn_145 (by rfl) ?_
      refine tv_aload_n (pc := 146) dD_passOn_146 (by rfl) ?_
      refine tv_getI (pc := 147) 1 tb_56 (by rfl) uwD_ (by decide) wm_663 (by rfl) dD_passOn_147 ?_
      refine tv_icmp_ge (pc := 150) 303 dD_passOn_150 (by decide) (fun _ => ?_) (fun h => absurd (by rw [hv1]; exact Int32.le_refl _) h)
      refine tv_iload_n (pc := 303) dD_passOn_303 (by rfl) ?_
      exact tv_zret (pc := 304) dD_passOn_304 rfl (Nat.le_refl _) (Nat.le_refl _) tp_b_z ⟨_, rfl, rfl, hQ.1, fun j i hj hi => by rw [hQ.2.2 j i hj hi, if_pos hi]⟩
    | succ d ih =>
      intro q v l3 hd hQ
      have hqn : q < n := by omega
      have hv1 : v 56 1 = nI n := by rw [hQ.1.2.1 1 (by decide)]; exact hs
      have i32 : tc_ix (16 + nI q) 32 (16 + q) := ix16 (by omega)
      have i16 : tc_ix (nI q) 16 q := tc_ixN (by omega) (by decide)
      have z63 := (hQ.2.1 q hqn).1
      have z61 := (hQ.2.1 q hqn).2.1
      have z62 := (hQ.2.1 q hqn).2.2
      have z57 : v 57 (16 + q) = pm u 16 0 q := by rw [← pm_of (u := v) (o := 16) (j := 0) (i := q) (by decide), hQ.2.2 0 q (by decide) hqn, if_neg (by omega)]
      have z58 : v 58 (16 + q) = pm u 16 1 q := by rw [← pm_of (u := v) (o := 16) (j := 1) (i := q) (by decide), hQ.2.2 1 q (by decide) hqn, if_neg (by omega)]
      have z59 : v 59 (16 + q) = pm u 16 2 q := by rw [← pm_of (u := v) (o := 16) (j := 2) (i := q) (by decide), hQ.2.2 2 q (by decide) hqn, if_neg (by omega)]
      have z60 : v 60 (16 + q) = pm u 16 3 q := by rw [← pm_of (u := v) (o := 16) (j := 3) (i := q) (by decide), hQ.2.2 3 q (by decide) hqn, if_neg (by omega)]
      have y61 : (tc_up v 58 (16 + q) (tp_p1 n (pm u 16) 1 q)) 61 q = tp_p1 n (pm u 16) 2 q := by rw [tc_up_ne (by decide)]; exact z61
      have y62 : (tc_up (tc_up v 58 (16 + q) (tp_p1 n (pm u 16) 1 q)) 59 (16 + q) (tp_p1 n (pm u 16) 2 q)) 62 q = tp_p1 n (pm u 16) 3 q := by rw [tc_up_ne (by decide), tc_up_ne (by decide)]; exact z62
      have x57 : (ps_w (tp_p1 n (pm u 16) 1 q) (tp_p1 n (pm u 16) 2 q) (tp_p1 n (pm u 16) 3 q) q v) 57 (16 + q) = pm u 16 0 q := by rw [ps_w_o (by omega)]; exact z57
      have x63 : (ps_w (tp_p1 n (pm u 16) 1 q) (tp_p1 n (pm u 16) 2 q) (tp_p1 n (pm u 16) 3 q) q v) 63 q = tp_p1 n (pm u 16) 1 q := by rw [ps_w_o (by omega)]; exact z63
      have x61 : (ps_w (tp_p1 n (pm u 16) 1 q) (tp_p1 n (pm u 16) 2 q) (tp_p1 n (pm u 16) 3 q) q v) 61 q = tp_p1 n (pm u 16) 2 q := by rw [ps_w_o (by omega)]; exact z61
      have nq : ∀ j, tp_p1 n (pm u 16) j q = pm u 16 j q ↔ ¬ tp_q n (pm u 16) j q := fun j => tp_p1_ne hP1 hqn
      have r262 : tc_V tcx G p l e r0D_passOn s m args below meth c bD_passOn 4 tw "TracedCodeModel" (some .boolean) [] (MQ below (tc_Qc tcx G (tc_KI (fun r0 v => r0 = tp_b (tp_pch n (pm u 16)) ∧ ps_F u v ∧ ∀ j i, j < 4 → i < n → pm v 16 j i = tp_pass n (pm u 16) j i)) s.heap.size) args s 0 0 (tc_A tcx G s.heap.size)) 0 0 (ps_w (tp_p1 n (pm u 16) 1 q) (tp_p1 n (pm u 16) 2 q) (tp_p1 n (pm u 16) 3 q) q v) 262 [some (.ref (tc_ad G 56)), some (.int (tp_b ((∃ i, i < q ∧ ps_c n (pm u 16) i) ∨ ∃ j, j < 4 ∧ tp_q n (pm u 16) j q))), some (.int (nI q)), l3] [] := by
        refine tv_aload_n (pc := 262) dD_passOn_262 (by rfl) ?_
        refine tv_getR (pc := 263) 2 tb_56 (by rfl) uwD_ (by decide) wm_664 (by rfl) dD_passOn_263 ?_
        refine tv_bipush (v := 16) (pc := 266) dD_passOn_266 (by decide) ?_
        refine tv_iload_n (pc := 268) dD_passOn_268 (by rfl) ?_
        refine tv_iadd (pc := 269) dD_passOn_269 ?_
        refine tv_iald (pc := 270) tb_57 (by assumption) dD_passOn_270 ?_
        rw [x57]
        refine tv_iconst (v := 1) (pc := 271) dD_passOn_271 (by decide) ?_
        refine tv_icmp_ne (pc := 272) 297 dD_passOn_272 (by decide) (fun h272 => ?_) (fun h272 => ?_)
        · skip
          first
          | (have hd0 : ¬ pm u 16 0 q = 1 := (by assumption)
             have he : ¬ tp_e1 n (pm u 16) q := fun z => hd0 z.1
             have ha := ih (q + 1) _ l3 (by omega) (ps_Q_w hqn hQ he)
             rw [tp_b_iff (ex_lt_s.trans ⟨fun z => z.imp id (fun z => z.resolve_right he), fun z => z.imp id Or.inl⟩), ← nI_1] at ha)
          | (have hd0 : ¬ tp_p1 n (pm u 16) 1 q = tp_p1 n (pm u 16) 2 q := (by assumption)
             have he : ¬ tp_e1 n (pm u 16) q := fun z => hd0 z.2
             have ha := ih (q + 1) _ l3 (by omega) (ps_Q_w hqn hQ he)
             rw [tp_b_iff (ex_lt_s.trans ⟨fun z => z.imp id (fun z => z.resolve_right he), fun z => z.imp id Or.inl⟩), ← nI_1] at ha)
          | (have he : tp_e1 n (pm u 16) q := ⟨by assumption, by assumption⟩
             have ha := ih (q + 1) _ l3 (by omega) (ps_Q_e (x1 := tp_p1 n (pm u 16) 1 q) (x2 := tp_p1 n (pm u 16) 2 q) (x3 := tp_p1 n (pm u 16) 3 q) hqn hQ he)
             rw [tp_b_t (ex_lt_s.mpr (Or.inr (Or.inr he))), ← nI_1] at ha)
          refine tv_iinc2 (v := 1) (pc := 297) dD_passOn_297 (by decide) (by rfl) ?_
          refine tv_goto (pc := 300) 145 dD_passOn_300 (by decide) ?_
          exact ha
        · skip
          refine tv_aload_n (pc := 275) dD_passOn_275 (by rfl) ?_
          refine tv_getR (pc := 276) 9 tb_56 (by rfl) uwD_ (by decide) wm_671 (by rfl) dD_passOn_276 ?_
          refine tv_iload_n (pc := 279) dD_passOn_279 (by rfl) ?_
          refine tv_iald (pc := 280) tb_63 (by assumption) dD_passOn_280 ?_
          rw [x63]
          refine tv_aload_n (pc := 281) dD_passOn_281 (by rfl) ?_
          refine tv_getR (pc := 282) 7 tb_56 (by rfl) uwD_ (by decide) wm_669 (by rfl) dD_passOn_282 ?_
          refine tv_iload_n (pc := 285) dD_passOn_285 (by rfl) ?_
          refine tv_iald (pc := 286) tb_61 (by assumption) dD_passOn_286 ?_
          rw [x61]
          refine tv_icmp_ne (pc := 287) 297 dD_passOn_287 (by decide) (fun h287 => ?_) (fun h287 => ?_)
          · skip
            first
            | (have hd0 : ¬ pm u 16 0 q = 1 := (by assumption)
               have he : ¬ tp_e1 n (pm u 16) q := fun z => hd0 z.1
               have ha := ih (q + 1) _ l3 (by omega) (ps_Q_w hqn hQ he)
               rw [tp_b_iff (ex_lt_s.trans ⟨fun z => z.imp id (fun z => z.resolve_right he), fun z => z.imp id Or.inl⟩), ← nI_1] at ha)
            | (have hd0 : ¬ tp_p1 n (pm u 16) 1 q = tp_p1 n (pm u 16) 2 q := (by assumption)
               have he : ¬ tp_e1 n (pm u 16) q := fun z => hd0 z.2
               have ha := ih (q + 1) _ l3 (by omega) (ps_Q_w hqn hQ he)
               rw [tp_b_iff (ex_lt_s.trans ⟨fun z => z.imp id (fun z => z.resolve_right he), fun z => z.imp id Or.inl⟩), ← nI_1] at ha)
            | (have he : tp_e1 n (pm u 16) q := ⟨by assumption, by assumption⟩
               have ha := ih (q + 1) _ l3 (by omega) (ps_Q_e (x1 := tp_p1 n (pm u 16) 1 q) (x2 := tp_p1 n (pm u 16) 2 q) (x3 := tp_p1 n (pm u 16) 3 q) hqn hQ he)
               rw [tp_b_t (ex_lt_s.mpr (Or.inr (Or.inr he))), ← nI_1] at ha)
            refine tv_iinc2 (v := 1) (pc := 297) dD_passOn_297 (by decide) (by rfl) ?_
            refine tv_goto (pc := 300) 145 dD_passOn_300 (by decide) ?_
            exact ha
          · skip
            refine tv_aload_n (pc := 290) dD_passOn_290 (by rfl) ?_
            refine tv_iload_n (pc := 291) dD_passOn_291 (by rfl) ?_
            refine tv_callVv (pc := 292) [_] tb_56 (by rfl) (c_D_empty l G _ (i := q) (by omega)) (kVD_empty wm_819 ⟨by decide, by decide⟩) (by rfl) (Nat.le_of_ble_eq_true rfl) dD_passOn_292 ⟨by decide, by decide⟩ ?_
            refine tv_iconst (v := 1) (pc := 295) dD_passOn_295 (by decide) ?_
            refine tv_istore1 (pc := 296) dD_passOn_296 (by rfl) ?_
            first
            | (have hd0 : ¬ pm u 16 0 q = 1 := (by assumption)
               have he : ¬ tp_e1 n (pm u 16) q := fun z => hd0 z.1
               have ha := ih (q + 1) _ l3 (by omega) (ps_Q_w hqn hQ he)
               rw [tp_b_iff (ex_lt_s.trans ⟨fun z => z.imp id (fun z => z.resolve_right he), fun z => z.imp id Or.inl⟩), ← nI_1] at ha)
            | (have hd0 : ¬ tp_p1 n (pm u 16) 1 q = tp_p1 n (pm u 16) 2 q := (by assumption)
               have he : ¬ tp_e1 n (pm u 16) q := fun z => hd0 z.2
               have ha := ih (q + 1) _ l3 (by omega) (ps_Q_w hqn hQ he)
               rw [tp_b_iff (ex_lt_s.trans ⟨fun z => z.imp id (fun z => z.resolve_right he), fun z => z.imp id Or.inl⟩), ← nI_1] at ha)
            | (have he : tp_e1 n (pm u 16) q := ⟨by assumption, by assumption⟩
               have ha := ih (q + 1) _ l3 (by omega) (ps_Q_e (x1 := tp_p1 n (pm u 16) 1 q) (x2 := tp_p1 n (pm u 16) 2 q) (x3 := tp_p1 n (pm u 16) 3 q) hqn hQ he)
               rw [tp_b_t (ex_lt_s.mpr (Or.inr (Or.inr he))), ← nI_1] at ha)
            refine tv_iinc2 (v := 1) (pc := 297) dD_passOn_297 (by decide) (by rfl) ?_
            refine tv_goto (pc := 300) 145 dD_passOn_300 (by decide) ?_
            exact ha
      have r216 : tc_V tcx G p l e r0D_passOn s m args below meth c bD_passOn 4 tw "TracedCodeModel" (some .boolean) [] (MQ below (tc_Qc tcx G (tc_KI (fun r0 v => r0 = tp_b (tp_pch n (pm u 16)) ∧ ps_F u v ∧ ∀ j i, j < 4 → i < n → pm v 16 j i = tp_pass n (pm u 16) j i)) s.heap.size) args s 0 0 (tc_A tcx G s.heap.size)) 0 0 v 216 [some (.ref (tc_ad G 56)), some (.int (tp_b (∃ i, i < q ∧ ps_c n (pm u 16) i))), some (.int (nI q)), l3] [.int (tp_b ((∃ i, i < q ∧ ps_c n (pm u 16) i) ∨ ∃ j, j < 4 ∧ tp_q n (pm u 16) j q))] := by
        refine tv_istore1 (pc := 216) dD_passOn_216 (by rfl) ?_
        refine tv_aload_n (pc := 217) dD_passOn_217 (by rfl) ?_
        refine tv_getR (pc := 218) 3 tb_56 (by rfl) uwD_ (by decide) wm_665 (by rfl) dD_passOn_218 ?_
        refine tv_bipush (v := 16) (pc := 221) dD_passOn_221 (by decide) ?_
        refine tv_iload_n (pc := 223) dD_passOn_223 (by rfl) ?_
        refine tv_iadd (pc := 224) dD_passOn_224 ?_
        refine tv_aload_n (pc := 225) dD_passOn_225 (by rfl) ?_
        refine tv_getR (pc := 226) 9 tb_56 (by rfl) uwD_ (by decide) wm_671 (by rfl) dD_passOn_226 ?_
        refine tv_iload_n (pc := 229) dD_passOn_229 (by rfl) ?_
        refine tv_iald (pc := 230) tb_63 (by assumption) dD_passOn_230 ?_
        rw [z63]
        refine tv_iast (pc := 231) tb_58 (by assumption) dD_passOn_231 ?_
        refine tv_aload_n (pc := 232) dD_passOn_232 (by rfl) ?_
        refine tv_getR (pc := 233) 4 tb_56 (by rfl) uwD_ (by decide) wm_666 (by rfl) dD_passOn_233 ?_
        refine tv_bipush (v := 16) (pc := 236) dD_passOn_236 (by decide) ?_
        refine tv_iload_n (pc := 238) dD_passOn_238 (by rfl) ?_
        refine tv_iadd (pc := 239) dD_passOn_239 ?_
        refine tv_aload_n (pc := 240) dD_passOn_240 (by rfl) ?_
        refine tv_getR (pc := 241) 7 tb_56 (by rfl) uwD_ (by decide) wm_669 (by rfl) dD_passOn_241 ?_
        refine tv_iload_n (pc := 244) dD_passOn_244 (by rfl) ?_
        refine tv_iald (pc := 245) tb_61 (by assumption) dD_passOn_245 ?_
        rw [y61]
        refine tv_iast (pc := 246) tb_59 (by assumption) dD_passOn_246 ?_
        refine tv_aload_n (pc := 247) dD_passOn_247 (by rfl) ?_
        refine tv_getR (pc := 248) 5 tb_56 (by rfl) uwD_ (by decide) wm_667 (by rfl) dD_passOn_248 ?_
        refine tv_bipush (v := 16) (pc := 251) dD_passOn_251 (by decide) ?_
        refine tv_iload_n (pc := 253) dD_passOn_253 (by rfl) ?_
        refine tv_iadd (pc := 254) dD_passOn_254 ?_
        refine tv_aload_n (pc := 255) dD_passOn_255 (by rfl) ?_
        refine tv_getR (pc := 256) 8 tb_56 (by rfl) uwD_ (by decide) wm_670 (by rfl) dD_passOn_256 ?_
        refine tv_iload_n (pc := 259) dD_passOn_259 (by rfl) ?_
        refine tv_iald (pc := 260) tb_62 (by assumption) dD_passOn_260 ?_
        rw [y62]
        refine tv_iast (pc := 261) tb_60 (by assumption) dD_passOn_261 ?_
        exact r262
      refine tv_iload_n (pc := 145) dD_passOn_145 (by rfl) ?_
      refine tv_aload_n (pc := 146) dD_passOn_146 (by rfl) ?_
      refine tv_getI (pc := 147) 1 tb_56 (by rfl) uwD_ (by decide) wm_663 (by rfl) dD_passOn_147 ?_
      refine tv_icmp_ge (pc := 150) 303 dD_passOn_150 (by decide) (fun h => absurd h (by rw [hv1]; exact nI_ge hqn (by omega))) (fun _ => ?_)
      refine tv_iload_n (pc := 153) dD_passOn_153 (by rfl) ?_
      refine tv_if_ne (pc := 154) 211 dD_passOn_154 (by decide) (fun h154 => ?_) (fun h154 => ?_)
      · skip
        refine tv_iconst (v := 1) (pc := 211) dD_passOn_211 (by decide) ?_
        refine tv_goto (pc := 212) 216 dD_passOn_212 (by decide) ?_
        first
        | (have hx : ¬ tp_b (∃ i, i < q ∧ ps_c n (pm u 16) i) = 0 := (by assumption)
           rw [tp_b_t (Or.inl (tp_b_p hx))] at r216
           exact r216)
        | (have hx : ¬ tp_p1 n (pm u 16) 1 q = pm u 16 1 q := (by assumption)
           rw [tp_b_t (Or.inr ⟨1, by decide, Classical.byContradiction fun z => hx ((nq 1).mpr z)⟩)] at r216
           exact r216)
        | (have hx : ¬ tp_p1 n (pm u 16) 2 q = pm u 16 2 q := (by assumption)
           rw [tp_b_t (Or.inr ⟨2, by decide, Classical.byContradiction fun z => hx ((nq 2).mpr z)⟩)] at r216
           exact r216)
        | (have hx : ¬ tp_p1 n (pm u 16) 3 q = pm u 16 3 q := (by assumption)
           rw [tp_b_t (Or.inr ⟨3, by decide, Classical.byContradiction fun z => hx ((nq 3).mpr z)⟩)] at r216
           exact r216)
        | (have h1 : tp_p1 n (pm u 16) 1 q = pm u 16 1 q := (by assumption)
           have h2 : tp_p1 n (pm u 16) 2 q = pm u 16 2 q := (by assumption)
           have h3 : tp_p1 n (pm u 16) 3 q = pm u 16 3 q := (by assumption)
           have h0 : tp_b (∃ i, i < q ∧ ps_c n (pm u 16) i) = 0 := (by assumption)
           rw [tp_b_f (p := ((∃ i, i < q ∧ ps_c n (pm u 16) i) ∨ ∃ j, j < 4 ∧ tp_q n (pm u 16) j q)) (fun z => z.elim (tp_b_q h0) (fun ⟨j, hj, hz⟩ => by
              have : j = 0 ∨ j = 1 ∨ j = 2 ∨ j = 3 := by omega
              rcases this with rfl | rfl | rfl | rfl
              · exact tp_rd0 hz.1
              · exact (nq 1).mp h1 hz
              · exact (nq 2).mp h2 hz
              · exact (nq 3).mp h3 hz))] at r216
           exact r216)
      · skip
        refine tv_aload_n (pc := 157) dD_passOn_157 (by rfl) ?_
        refine tv_getR (pc := 158) 9 tb_56 (by rfl) uwD_ (by decide) wm_671 (by rfl) dD_passOn_158 ?_
        refine tv_iload_n (pc := 161) dD_passOn_161 (by rfl) ?_
        refine tv_iald (pc := 162) tb_63 (by assumption) dD_passOn_162 ?_
        rw [z63]
        refine tv_aload_n (pc := 163) dD_passOn_163 (by rfl) ?_
        refine tv_getR (pc := 164) 3 tb_56 (by rfl) uwD_ (by decide) wm_665 (by rfl) dD_passOn_164 ?_
        refine tv_bipush (v := 16) (pc := 167) dD_passOn_167 (by decide) ?_
        refine tv_iload_n (pc := 169) dD_passOn_169 (by rfl) ?_
        refine tv_iadd (pc := 170) dD_passOn_170 ?_
        refine tv_iald (pc := 171) tb_58 (by assumption) dD_passOn_171 ?_
        rw [z58]
        refine tv_icmp_ne (pc := 172) 211 dD_passOn_172 (by decide) (fun h172 => ?_) (fun h172 => ?_)
        · skip
          refine tv_iconst (v := 1) (pc := 211) dD_passOn_211 (by decide) ?_
          refine tv_goto (pc := 212) 216 dD_passOn_212 (by decide) ?_
          first
          | (have hx : ¬ tp_b (∃ i, i < q ∧ ps_c n (pm u 16) i) = 0 := (by assumption)
             rw [tp_b_t (Or.inl (tp_b_p hx))] at r216
             exact r216)
          | (have hx : ¬ tp_p1 n (pm u 16) 1 q = pm u 16 1 q := (by assumption)
             rw [tp_b_t (Or.inr ⟨1, by decide, Classical.byContradiction fun z => hx ((nq 1).mpr z)⟩)] at r216
             exact r216)
          | (have hx : ¬ tp_p1 n (pm u 16) 2 q = pm u 16 2 q := (by assumption)
             rw [tp_b_t (Or.inr ⟨2, by decide, Classical.byContradiction fun z => hx ((nq 2).mpr z)⟩)] at r216
             exact r216)
          | (have hx : ¬ tp_p1 n (pm u 16) 3 q = pm u 16 3 q := (by assumption)
             rw [tp_b_t (Or.inr ⟨3, by decide, Classical.byContradiction fun z => hx ((nq 3).mpr z)⟩)] at r216
             exact r216)
          | (have h1 : tp_p1 n (pm u 16) 1 q = pm u 16 1 q := (by assumption)
             have h2 : tp_p1 n (pm u 16) 2 q = pm u 16 2 q := (by assumption)
             have h3 : tp_p1 n (pm u 16) 3 q = pm u 16 3 q := (by assumption)
             have h0 : tp_b (∃ i, i < q ∧ ps_c n (pm u 16) i) = 0 := (by assumption)
             rw [tp_b_f (p := ((∃ i, i < q ∧ ps_c n (pm u 16) i) ∨ ∃ j, j < 4 ∧ tp_q n (pm u 16) j q)) (fun z => z.elim (tp_b_q h0) (fun ⟨j, hj, hz⟩ => by
                have : j = 0 ∨ j = 1 ∨ j = 2 ∨ j = 3 := by omega
                rcases this with rfl | rfl | rfl | rfl
                · exact tp_rd0 hz.1
                · exact (nq 1).mp h1 hz
                · exact (nq 2).mp h2 hz
                · exact (nq 3).mp h3 hz))] at r216
             exact r216)
        · skip
          refine tv_aload_n (pc := 175) dD_passOn_175 (by rfl) ?_
          refine tv_getR (pc := 176) 7 tb_56 (by rfl) uwD_ (by decide) wm_669 (by rfl) dD_passOn_176 ?_
          refine tv_iload_n (pc := 179) dD_passOn_179 (by rfl) ?_
          refine tv_iald (pc := 180) tb_61 (by assumption) dD_passOn_180 ?_
          rw [z61]
          refine tv_aload_n (pc := 181) dD_passOn_181 (by rfl) ?_
          refine tv_getR (pc := 182) 4 tb_56 (by rfl) uwD_ (by decide) wm_666 (by rfl) dD_passOn_182 ?_
          refine tv_bipush (v := 16) (pc := 185) dD_passOn_185 (by decide) ?_
          refine tv_iload_n (pc := 187) dD_passOn_187 (by rfl) ?_
          refine tv_iadd (pc := 188) dD_passOn_188 ?_
          refine tv_iald (pc := 189) tb_59 (by assumption) dD_passOn_189 ?_
          rw [z59]
          refine tv_icmp_ne (pc := 190) 211 dD_passOn_190 (by decide) (fun h190 => ?_) (fun h190 => ?_)
          · skip
            refine tv_iconst (v := 1) (pc := 211) dD_passOn_211 (by decide) ?_
            refine tv_goto (pc := 212) 216 dD_passOn_212 (by decide) ?_
            first
            | (have hx : ¬ tp_b (∃ i, i < q ∧ ps_c n (pm u 16) i) = 0 := (by assumption)
               rw [tp_b_t (Or.inl (tp_b_p hx))] at r216
               exact r216)
            | (have hx : ¬ tp_p1 n (pm u 16) 1 q = pm u 16 1 q := (by assumption)
               rw [tp_b_t (Or.inr ⟨1, by decide, Classical.byContradiction fun z => hx ((nq 1).mpr z)⟩)] at r216
               exact r216)
            | (have hx : ¬ tp_p1 n (pm u 16) 2 q = pm u 16 2 q := (by assumption)
               rw [tp_b_t (Or.inr ⟨2, by decide, Classical.byContradiction fun z => hx ((nq 2).mpr z)⟩)] at r216
               exact r216)
            | (have hx : ¬ tp_p1 n (pm u 16) 3 q = pm u 16 3 q := (by assumption)
               rw [tp_b_t (Or.inr ⟨3, by decide, Classical.byContradiction fun z => hx ((nq 3).mpr z)⟩)] at r216
               exact r216)
            | (have h1 : tp_p1 n (pm u 16) 1 q = pm u 16 1 q := (by assumption)
               have h2 : tp_p1 n (pm u 16) 2 q = pm u 16 2 q := (by assumption)
               have h3 : tp_p1 n (pm u 16) 3 q = pm u 16 3 q := (by assumption)
               have h0 : tp_b (∃ i, i < q ∧ ps_c n (pm u 16) i) = 0 := (by assumption)
               rw [tp_b_f (p := ((∃ i, i < q ∧ ps_c n (pm u 16) i) ∨ ∃ j, j < 4 ∧ tp_q n (pm u 16) j q)) (fun z => z.elim (tp_b_q h0) (fun ⟨j, hj, hz⟩ => by
                  have : j = 0 ∨ j = 1 ∨ j = 2 ∨ j = 3 := by omega
                  rcases this with rfl | rfl | rfl | rfl
                  · exact tp_rd0 hz.1
                  · exact (nq 1).mp h1 hz
                  · exact (nq 2).mp h2 hz
                  · exact (nq 3).mp h3 hz))] at r216
               exact r216)
          · skip
            refine tv_aload_n (pc := 193) dD_passOn_193 (by rfl) ?_
            refine tv_getR (pc := 194) 8 tb_56 (by rfl) uwD_ (by decide) wm_670 (by rfl) dD_passOn_194 ?_
            refine tv_iload_n (pc := 197) dD_passOn_197 (by rfl) ?_
            refine tv_iald (pc := 198) tb_62 (by assumption) dD_passOn_198 ?_
            rw [z62]
            refine tv_aload_n (pc := 199) dD_passOn_199 (by rfl) ?_
            refine tv_getR (pc := 200) 5 tb_56 (by rfl) uwD_ (by decide) wm_667 (by rfl) dD_passOn_200 ?_
            refine tv_bipush (v := 16) (pc := 203) dD_passOn_203 (by decide) ?_
            refine tv_iload_n (pc := 205) dD_passOn_205 (by rfl) ?_
            refine tv_iadd (pc := 206) dD_passOn_206 ?_
            refine tv_iald (pc := 207) tb_60 (by assumption) dD_passOn_207 ?_
            rw [z60]
            refine tv_icmp_eq (pc := 208) 215 dD_passOn_208 (by decide) (fun h208 => ?_) (fun h208 => ?_)
            · skip
              refine tv_iconst (v := 0) (pc := 215) dD_passOn_215 (by decide) ?_
              first
              | (have hx : ¬ tp_b (∃ i, i < q ∧ ps_c n (pm u 16) i) = 0 := (by assumption)
                 rw [tp_b_t (Or.inl (tp_b_p hx))] at r216
                 exact r216)
              | (have hx : ¬ tp_p1 n (pm u 16) 1 q = pm u 16 1 q := (by assumption)
                 rw [tp_b_t (Or.inr ⟨1, by decide, Classical.byContradiction fun z => hx ((nq 1).mpr z)⟩)] at r216
                 exact r216)
              | (have hx : ¬ tp_p1 n (pm u 16) 2 q = pm u 16 2 q := (by assumption)
                 rw [tp_b_t (Or.inr ⟨2, by decide, Classical.byContradiction fun z => hx ((nq 2).mpr z)⟩)] at r216
                 exact r216)
              | (have hx : ¬ tp_p1 n (pm u 16) 3 q = pm u 16 3 q := (by assumption)
                 rw [tp_b_t (Or.inr ⟨3, by decide, Classical.byContradiction fun z => hx ((nq 3).mpr z)⟩)] at r216
                 exact r216)
              | (have h1 : tp_p1 n (pm u 16) 1 q = pm u 16 1 q := (by assumption)
                 have h2 : tp_p1 n (pm u 16) 2 q = pm u 16 2 q := (by assumption)
                 have h3 : tp_p1 n (pm u 16) 3 q = pm u 16 3 q := (by assumption)
                 have h0 : tp_b (∃ i, i < q ∧ ps_c n (pm u 16) i) = 0 := (by assumption)
                 rw [tp_b_f (p := ((∃ i, i < q ∧ ps_c n (pm u 16) i) ∨ ∃ j, j < 4 ∧ tp_q n (pm u 16) j q)) (fun z => z.elim (tp_b_q h0) (fun ⟨j, hj, hz⟩ => by
                    have : j = 0 ∨ j = 1 ∨ j = 2 ∨ j = 3 := by omega
                    rcases this with rfl | rfl | rfl | rfl
                    · exact tp_rd0 hz.1
                    · exact (nq 1).mp h1 hz
                    · exact (nq 2).mp h2 hz
                    · exact (nq 3).mp h3 hz))] at r216
                 exact r216)
            · skip
              refine tv_iconst (v := 1) (pc := 211) dD_passOn_211 (by decide) ?_
              refine tv_goto (pc := 212) 216 dD_passOn_212 (by decide) ?_
              first
              | (have hx : ¬ tp_b (∃ i, i < q ∧ ps_c n (pm u 16) i) = 0 := (by assumption)
                 rw [tp_b_t (Or.inl (tp_b_p hx))] at r216
                 exact r216)
              | (have hx : ¬ tp_p1 n (pm u 16) 1 q = pm u 16 1 q := (by assumption)
                 rw [tp_b_t (Or.inr ⟨1, by decide, Classical.byContradiction fun z => hx ((nq 1).mpr z)⟩)] at r216
                 exact r216)
              | (have hx : ¬ tp_p1 n (pm u 16) 2 q = pm u 16 2 q := (by assumption)
                 rw [tp_b_t (Or.inr ⟨2, by decide, Classical.byContradiction fun z => hx ((nq 2).mpr z)⟩)] at r216
                 exact r216)
              | (have hx : ¬ tp_p1 n (pm u 16) 3 q = pm u 16 3 q := (by assumption)
                 rw [tp_b_t (Or.inr ⟨3, by decide, Classical.byContradiction fun z => hx ((nq 3).mpr z)⟩)] at r216
                 exact r216)
              | (have h1 : tp_p1 n (pm u 16) 1 q = pm u 16 1 q := (by assumption)
                 have h2 : tp_p1 n (pm u 16) 2 q = pm u 16 2 q := (by assumption)
                 have h3 : tp_p1 n (pm u 16) 3 q = pm u 16 3 q := (by assumption)
                 have h0 : tp_b (∃ i, i < q ∧ ps_c n (pm u 16) i) = 0 := (by assumption)
                 rw [tp_b_f (p := ((∃ i, i < q ∧ ps_c n (pm u 16) i) ∨ ∃ j, j < 4 ∧ tp_q n (pm u 16) j q)) (fun z => z.elim (tp_b_q h0) (fun ⟨j, hj, hz⟩ => by
                    have : j = 0 ∨ j = 1 ∨ j = 2 ∨ j = 3 := by omega
                    rcases this with rfl | rfl | rfl | rfl
                    · exact tp_rd0 hz.1
                    · exact (nq 1).mp h1 hz
                    · exact (nq 2).mp h2 hz
                    · exact (nq 3).mp h3 hz))] at r216
                 exact r216)
  have lines : ∀ (a b : Nat), a < 6 → b < 6 → (∀ (v : tc_S) (l3 : Option Value), nr_F u v → nv_A n (pm u 16) (fun _ => 6 * a + b + 1) v → tc_V tcx G p l e r0D_passOn s m args below meth c bD_passOn 4 tw "TracedCodeModel" (some .boolean) [] (MQ below (tc_Qc tcx G (tc_KI (fun r0 v => r0 = tp_b (tp_pch n (pm u 16)) ∧ ps_F u v ∧ ∀ j i, j < 4 → i < n → pm v 16 j i = tp_pass n (pm u 16) j i)) s.heap.size) args s 0 0 (tc_A tcx G s.heap.size)) 0 0 v 129 [some (.ref (tc_ad G 56)), some (.int (nI a)), some (.int (nI b)), l3] []) → ∀ (d q : Nat) (v : tc_S), q + d = n → nr_F u v → nv_A n (pm u 16) (nv_T a b q) v → (∀ x, x < n → (v 66 x = 0 ∨ v 66 x = 1) ∧ (v 66 x = 1 ↔ ¬ tp_c n (pm u 16) x a b)) → tc_V tcx G p l e r0D_passOn s m args below meth c bD_passOn 4 tw "TracedCodeModel" (some .boolean) [] (MQ below (tc_Qc tcx G (tc_KI (fun r0 v => r0 = tp_b (tp_pch n (pm u 16)) ∧ ps_F u v ∧ ∀ j i, j < 4 → i < n → pm v 16 j i = tp_pass n (pm u 16) j i)) s.heap.size) args s 0 0 (tc_A tcx G s.heap.size)) 0 0 v 90 [some (.ref (tc_ad G 56)), some (.int (nI a)), some (.int (nI b)), some (.int (nI q))] [] := by
    intro a b ha6 hb6 nxt d
    induction d with
    | zero =>
      intro q v hd hF hA hm
      have hq : q = n := by omega
      subst hq
      have hv1 : v 56 1 = nI q := by rw [hF.2 1 (by decide)]; exact hs
      have h129 := nxt v (some (.int (nI q))) hF (nv_A_congr hA (fun i hi => by unfold nv_T; rw [if_pos hi]))
      refine tv_iload_n (pc := 90) dD_passOn_90 (by rfl) ?_
      refine tv_aload_n (pc := 91) dD_passOn_91 (by rfl) ?_
      refine tv_getI (pc := 92) 1 tb_56 (by rfl) uwD_ (by decide) wm_663 (by rfl) dD_passOn_92 ?_
      refine tv_icmp_ge (pc := 95) 129 dD_passOn_95 (by decide) (fun _ => ?_) (fun h => absurd (by rw [hv1]; exact Int32.le_refl _) h)
      exact h129
    | succ d ih =>
      intro q v hd hF hA hm
      have hqn : q < n := by omega
      have hv1 : v 56 1 = nI n := by rw [hF.2 1 (by decide)]; exact hs
      have i17 : tc_ix (nI q) 17 q := tc_ixN (by omega) (by decide)
      have i34 : tc_ix (nI q) 34 q := tc_ixN (by omega) (by decide)
      have z65 : v 65 q = 1 := by rw [hF.1 65 (by omega)]; exact hre q hqn
      refine tv_iload_n (pc := 90) dD_passOn_90 (by rfl) ?_
      refine tv_aload_n (pc := 91) dD_passOn_91 (by rfl) ?_
      refine tv_getI (pc := 92) 1 tb_56 (by rfl) uwD_ (by decide) wm_663 (by rfl) dD_passOn_92 ?_
      refine tv_icmp_ge (pc := 95) 129 dD_passOn_95 (by decide) (fun h => absurd h (by rw [hv1]; exact nI_ge hqn (by omega))) (fun _ => ?_)
      refine tv_aload_n (pc := 98) dD_passOn_98 (by rfl) ?_
      refine tv_getR (pc := 99) 11 tb_56 (by rfl) uwD_ (by decide) wm_673 (by rfl) dD_passOn_99 ?_
      refine tv_iload_n (pc := 102) dD_passOn_102 (by rfl) ?_
      refine tv_zald (pc := 103) tb_65 (by assumption) dD_passOn_103 ?_
      refine tv_if_eq (pc := 104) 123 dD_passOn_104 (by decide) (fun h => absurd h (by rw [z65]; decide)) (fun _ => ?_)
      refine tv_aload_n (pc := 107) dD_passOn_107 (by rfl) ?_
      refine tv_getR (pc := 108) 12 tb_56 (by rfl) uwD_ (by decide) wm_674 (by rfl) dD_passOn_108 ?_
      refine tv_iload_n (pc := 111) dD_passOn_111 (by rfl) ?_
      refine tv_zald (pc := 112) tb_66 (by assumption) dD_passOn_112 ?_
      refine tv_if_ne (pc := 113) 123 dD_passOn_113 (by decide) (fun h113 => ?_) (fun h113 => ?_)
      · skip
        first
        | (have hx : ¬ v 66 q = 0 := (by assumption)
           have hc : ¬ tp_c n (pm u 16) q a b := (hm q hqn).2.mp ((hm q hqn).1.resolve_left hx)
           have ha := ih (q + 1) v (by omega) hF (nv_T_s hA hqn (fun i _ => ⟨rfl, rfl, rfl⟩) (fun h1 h2 h3 => ⟨nv_skip hP1 hqn ha6 hb6 (fun z => hc z.1) h1, nv_skip hP1 hqn ha6 hb6 (fun z => hc z.1) h2, nv_skip hP1 hqn ha6 hb6 (fun z => hc z.1) h3⟩)) hm
           rw [← nI_1] at ha)
        | (have hx : v 66 q = 0 := (by assumption)
           have hc : tp_c n (pm u 16) q a b := Classical.byContradiction fun z => absurd ((hm q hqn).2.mpr z) (by rw [hx]; decide)
           have hpm := nr_pm hF 16
           have hsv := sd_rep_v (i := q) (a := a) (b := b) (u := v)
           have ha := ih (q + 1) (sd_rep q a b v) (by omega) (nr_if (nr_if (nr_if hF (by omega)) (by omega)) (by omega)) (nv_T_s hA hqn hsv.1 (fun h1 h2 h3 => ⟨by rw [hsv.2.1, hpm]; exact nv_rep_i hP1 hqn ha6 hb6 hc h1, by rw [hsv.2.2.1, hpm]; exact nv_rep_i hP1 hqn ha6 hb6 hc h2, by rw [hsv.2.2.2, hpm]; exact nv_rep_i hP1 hqn ha6 hb6 hc h3⟩)) (fun x hx => by unfold sd_rep; rw [sd_if_o (by decide), sd_if_o (by decide), sd_if_o (by decide)]; exact hm x hx)
           rw [← nI_1] at ha)
        refine tv_iinc3 (v := 1) (pc := 123) dD_passOn_123 (by decide) (by rfl) ?_
        refine tv_goto (pc := 126) 90 dD_passOn_126 (by decide) ?_
        exact ha
      · skip
        refine tv_aload_n (pc := 116) dD_passOn_116 (by rfl) ?_
        refine tv_iload_n (pc := 117) dD_passOn_117 (by rfl) ?_
        refine tv_iload_n (pc := 118) dD_passOn_118 (by rfl) ?_
        refine tv_iload_n (pc := 119) dD_passOn_119 (by rfl) ?_
        refine tv_callVv (pc := 120) [_, _, _] tb_56 (by rfl) (c_D_replace l G v (i := q) (a := a) (b := b) (by omega)) (kVD_replace wm_815 ⟨by decide, by decide⟩) (by rfl) (Nat.le_of_ble_eq_true rfl) dD_passOn_120 ⟨by decide, by decide⟩ ?_
        first
        | (have hx : ¬ v 66 q = 0 := (by assumption)
           have hc : ¬ tp_c n (pm u 16) q a b := (hm q hqn).2.mp ((hm q hqn).1.resolve_left hx)
           have ha := ih (q + 1) v (by omega) hF (nv_T_s hA hqn (fun i _ => ⟨rfl, rfl, rfl⟩) (fun h1 h2 h3 => ⟨nv_skip hP1 hqn ha6 hb6 (fun z => hc z.1) h1, nv_skip hP1 hqn ha6 hb6 (fun z => hc z.1) h2, nv_skip hP1 hqn ha6 hb6 (fun z => hc z.1) h3⟩)) hm
           rw [← nI_1] at ha)
        | (have hx : v 66 q = 0 := (by assumption)
           have hc : tp_c n (pm u 16) q a b := Classical.byContradiction fun z => absurd ((hm q hqn).2.mpr z) (by rw [hx]; decide)
           have hpm := nr_pm hF 16
           have hsv := sd_rep_v (i := q) (a := a) (b := b) (u := v)
           have ha := ih (q + 1) (sd_rep q a b v) (by omega) (nr_if (nr_if (nr_if hF (by omega)) (by omega)) (by omega)) (nv_T_s hA hqn hsv.1 (fun h1 h2 h3 => ⟨by rw [hsv.2.1, hpm]; exact nv_rep_i hP1 hqn ha6 hb6 hc h1, by rw [hsv.2.2.1, hpm]; exact nv_rep_i hP1 hqn ha6 hb6 hc h2, by rw [hsv.2.2.2, hpm]; exact nv_rep_i hP1 hqn ha6 hb6 hc h3⟩)) (fun x hx => by unfold sd_rep; rw [sd_if_o (by decide), sd_if_o (by decide), sd_if_o (by decide)]; exact hm x hx)
           rw [← nI_1] at ha)
        refine tv_iinc3 (v := 1) (pc := 123) dD_passOn_123 (by decide) (by rfl) ?_
        refine tv_goto (pc := 126) 90 dD_passOn_126 (by decide) ?_
        exact ha
  have inner : ∀ (a : Nat), a < 6 → (∀ (v : tc_S) (l2 l3 : Option Value), nr_F u v → nv_A n (pm u 16) (fun _ => 6 * (a + 1)) v → tc_V tcx G p l e r0D_passOn s m args below meth c bD_passOn 4 tw "TracedCodeModel" (some .boolean) [] (MQ below (tc_Qc tcx G (tc_KI (fun r0 v => r0 = tp_b (tp_pch n (pm u 16)) ∧ ps_F u v ∧ ∀ j i, j < 4 → i < n → pm v 16 j i = tp_pass n (pm u 16) j i)) s.heap.size) args s 0 0 (tc_A tcx G s.heap.size)) 0 0 v 135 [some (.ref (tc_ad G 56)), some (.int (nI a)), l2, l3] []) → ∀ (d b : Nat) (v : tc_S) (l3 : Option Value), b + d = 6 → nr_F u v → nv_A n (pm u 16) (fun _ => 6 * a + b) v → tc_V tcx G p l e r0D_passOn s m args below meth c bD_passOn 4 tw "TracedCodeModel" (some .boolean) [] (MQ below (tc_Qc tcx G (tc_KI (fun r0 v => r0 = tp_b (tp_pch n (pm u 16)) ∧ ps_F u v ∧ ∀ j i, j < 4 → i < n → pm v 16 j i = tp_pass n (pm u 16) j i)) s.heap.size) args s 0 0 (tc_A tcx G s.heap.size)) 0 0 v 71 [some (.ref (tc_ad G 56)), some (.int (nI a)), some (.int (nI b)), l3] [] := by
    intro a ha6 nxt d
    induction d with
    | zero =>
      intro b v l3 hd hF hA
      have hb : b = 6 := by omega
      subst hb
      have h135 := nxt v (some (.int (nI 6))) l3 hF (nv_A_congr hA (fun i hi => by omega))
      refine tv_iload_n (pc := 71) dD_passOn_71 (by rfl) ?_
      refine tv_bipush (v := 6) (pc := 72) dD_passOn_72 (by decide) ?_
      refine tv_icmp_ge (pc := 74) 135 dD_passOn_74 (by decide) (fun _ => ?_) (fun h => absurd (by decide) h)
      exact h135
    | succ d ih =>
      intro b v l3 hd hF hA
      have hb6 : b < 6 := by omega
      have nx : ∀ (v : tc_S) (l3 : Option Value), nr_F u v → nv_A n (pm u 16) (fun _ => 6 * a + b + 1) v → tc_V tcx G p l e r0D_passOn s m args below meth c bD_passOn 4 tw "TracedCodeModel" (some .boolean) [] (MQ below (tc_Qc tcx G (tc_KI (fun r0 v => r0 = tp_b (tp_pch n (pm u 16)) ∧ ps_F u v ∧ ∀ j i, j < 4 → i < n → pm v 16 j i = tp_pass n (pm u 16) j i)) s.heap.size) args s 0 0 (tc_A tcx G s.heap.size)) 0 0 v 129 [some (.ref (tc_ad G 56)), some (.int (nI a)), some (.int (nI b)), l3] [] := by
        intro v l3 hF hA
        have hi := ih (b + 1) v l3 (by omega) hF hA
        rw [← nI_1] at hi
        refine tv_iinc2 (v := 1) (pc := 129) dD_passOn_129 (by decide) (by rfl) ?_
        refine tv_goto (pc := 132) 71 dD_passOn_132 (by decide) ?_
        exact hi
      by_cases hab : b = a
      · subst hab
        have h129 := nx v l3 hF (nv_A_skip hP1 ha6 hA)
        refine tv_iload_n (pc := 71) dD_passOn_71 (by rfl) ?_
        refine tv_bipush (v := 6) (pc := 72) dD_passOn_72 (by decide) ?_
        refine tv_icmp_ge (pc := 74) 135 dD_passOn_74 (by decide) (fun h => absurd h (nI_lt6 hb6)) (fun _ => ?_)
        refine tv_iload_n (pc := 77) dD_passOn_77 (by rfl) ?_
        refine tv_iload_n (pc := 78) dD_passOn_78 (by rfl) ?_
        refine tv_icmp_eq (pc := 79) 129 dD_passOn_79 (by decide) (fun _ => ?_) (fun h => absurd rfl h)
        exact h129
      · have fo := c_D_follow l G v (n := n) (a := a) (b := b) (by rw [hF.2 1 (by decide)]; exact hs) hn ha6 hb6 (fun e => hab e.symm) (by rw [nr_pm hF]; exact hP) (by rw [nr_pm hF]; exact hP1) (by rw [nr_pm hF, nr_pm hF]; exact ht)
        rw [nr_pm hF] at fo
        refine tv_iload_n (pc := 71) dD_passOn_71 (by rfl) ?_
        refine tv_bipush (v := 6) (pc := 72) dD_passOn_72 (by decide) ?_
        refine tv_icmp_ge (pc := 74) 135 dD_passOn_74 (by decide) (fun h => absurd h (nI_lt6 hb6)) (fun _ => ?_)
        refine tv_iload_n (pc := 77) dD_passOn_77 (by rfl) ?_
        refine tv_iload_n (pc := 78) dD_passOn_78 (by rfl) ?_
        refine tv_icmp_eq (pc := 79) 129 dD_passOn_79 (by decide) (fun h => absurd h (fun z => hab ((nI_eq (by omega) (by omega)).mp z))) (fun _ => ?_)
        refine tv_aload_n (pc := 82) dD_passOn_82 (by rfl) ?_
        refine tv_iload_n (pc := 83) dD_passOn_83 (by rfl) ?_
        refine tv_iload_n (pc := 84) dD_passOn_84 (by rfl) ?_
        refine tv_callVV (pc := 85) [_, _] tb_56 (by rfl) fo (kVD_follow wm_807 ⟨by decide, by decide⟩) (by rfl) (Nat.le_of_ble_eq_true rfl) dD_passOn_85 ⟨by decide, by decide⟩ (fun w hw => ?_)
        refine tv_iconst (v := 0) (pc := 88) dD_passOn_88 (by decide) ?_
        refine tv_istore3 (pc := 89) dD_passOn_89 (by rfl) ?_
        exact lines a b ha6 hb6 nx n 0 w (by omega) (nr_df hF hw.1) (nv_A_congr (nv_Adf hA hw.1) (fun i hi => by unfold nv_T; rw [if_neg (by omega)])) (fun x hx => ⟨hw.2.1 x (by omega), hw.2.2 x (by omega)⟩)
  have outer : ∀ (d a : Nat) (v : tc_S) (l2 l3 : Option Value), a + d = 6 → nr_F u v → nv_A n (pm u 16) (fun _ => 6 * a) v → tc_V tcx G p l e r0D_passOn s m args below meth c bD_passOn 4 tw "TracedCodeModel" (some .boolean) [] (MQ below (tc_Qc tcx G (tc_KI (fun r0 v => r0 = tp_b (tp_pch n (pm u 16)) ∧ ps_F u v ∧ ∀ j i, j < 4 → i < n → pm v 16 j i = tp_pass n (pm u 16) j i)) s.heap.size) args s 0 0 (tc_A tcx G s.heap.size)) 0 0 v 63 [some (.ref (tc_ad G 56)), some (.int (nI a)), l2, l3] [] := by
    intro d
    induction d with
    | zero =>
      intro a v l2 l3 hd hF hA
      have ha : a = 6 := by omega
      subst ha
      have hl := last n 0 v l3 (by omega) ⟨ps_nr hF, fun i hi => ⟨nv_end hP1 hi (hA i hi).1, nv_end hP1 hi (hA i hi).2.1, nv_end hP1 hi (hA i hi).2.2⟩, fun j i hj hi => by rw [if_neg (by omega), nr_pm hF]⟩
      rw [tp_b_0] at hl
      refine tv_iload_n (pc := 63) dD_passOn_63 (by rfl) ?_
      refine tv_bipush (v := 6) (pc := 64) dD_passOn_64 (by decide) ?_
      refine tv_icmp_ge (pc := 66) 141 dD_passOn_66 (by decide) (fun _ => ?_) (fun h => absurd (by decide) h)
      refine tv_iconst (v := 0) (pc := 141) dD_passOn_141 (by decide) ?_
      refine tv_istore1 (pc := 142) dD_passOn_142 (by rfl) ?_
      refine tv_iconst (v := 0) (pc := 143) dD_passOn_143 (by decide) ?_
      refine tv_istore2 (pc := 144) dD_passOn_144 (by rfl) ?_
      exact hl
    | succ d ih =>
      intro a v l2 l3 hd hF hA
      have ha6 : a < 6 := by omega
      have nx : ∀ (v : tc_S) (l2 l3 : Option Value), nr_F u v → nv_A n (pm u 16) (fun _ => 6 * (a + 1)) v → tc_V tcx G p l e r0D_passOn s m args below meth c bD_passOn 4 tw "TracedCodeModel" (some .boolean) [] (MQ below (tc_Qc tcx G (tc_KI (fun r0 v => r0 = tp_b (tp_pch n (pm u 16)) ∧ ps_F u v ∧ ∀ j i, j < 4 → i < n → pm v 16 j i = tp_pass n (pm u 16) j i)) s.heap.size) args s 0 0 (tc_A tcx G s.heap.size)) 0 0 v 135 [some (.ref (tc_ad G 56)), some (.int (nI a)), l2, l3] [] := by
        intro v l2 l3 hF hA
        have hi := ih (a + 1) v l2 l3 (by omega) hF hA
        rw [← nI_1] at hi
        refine tv_iinc1 (v := 1) (pc := 135) dD_passOn_135 (by decide) (by rfl) ?_
        refine tv_goto (pc := 138) 63 dD_passOn_138 (by decide) ?_
        exact hi
      refine tv_iload_n (pc := 63) dD_passOn_63 (by rfl) ?_
      refine tv_bipush (v := 6) (pc := 64) dD_passOn_64 (by decide) ?_
      refine tv_icmp_ge (pc := 66) 141 dD_passOn_66 (by decide) (fun h => absurd h (nI_lt6 ha6)) (fun _ => ?_)
      refine tv_iconst (v := 0) (pc := 69) dD_passOn_69 (by decide) ?_
      refine tv_istore2 (pc := 70) dD_passOn_70 (by rfl) ?_
      exact inner a ha6 nx 6 0 v l3 (by omega) hF hA
  have first : ∀ (d q : Nat) (v : tc_S) (l2 l3 : Option Value), q + d = n → nr_F u v → (∀ i, i < q → v 63 i = pm u 16 1 i ∧ v 61 i = pm u 16 2 i ∧ v 62 i = pm u 16 3 i) → tc_V tcx G p l e r0D_passOn s m args below meth c bD_passOn 4 tw "TracedCodeModel" (some .boolean) [] (MQ below (tc_Qc tcx G (tc_KI (fun r0 v => r0 = tp_b (tp_pch n (pm u 16)) ∧ ps_F u v ∧ ∀ j i, j < 4 → i < n → pm v 16 j i = tp_pass n (pm u 16) j i)) s.heap.size) args s 0 0 (tc_A tcx G s.heap.size)) 0 0 v 2 [some (.ref (tc_ad G 56)), some (.int (nI q)), l2, l3] [] := by
    intro d
    induction d with
    | zero =>
      intro q v l2 l3 hd hF hA
      have hq : q = n := by omega
      subst hq
      have hv1 : v 56 1 = nI q := by rw [hF.2 1 (by decide)]; exact hs
      have ho := outer 6 0 v l2 l3 (by omega) hF (fun i hi => by rw [(hA i hi).1, (hA i hi).2.1, (hA i hi).2.2]; exact ⟨nv_0, nv_0, nv_0⟩)
      refine tv_iload_n (pc := 2) dD_passOn_2 (by rfl) ?_
      refine tv_aload_n (pc := 3) dD_passOn_3 (by rfl) ?_
      refine tv_getI (pc := 4) 1 tb_56 (by rfl) uwD_ (by decide) wm_663 (by rfl) dD_passOn_4 ?_
      refine tv_icmp_ge (pc := 7) 61 dD_passOn_7 (by decide) (fun _ => ?_) (fun h => absurd (by rw [hv1]; exact Int32.le_refl _) h)
      refine tv_iconst (v := 0) (pc := 61) dD_passOn_61 (by decide) ?_
      refine tv_istore1 (pc := 62) dD_passOn_62 (by rfl) ?_
      exact ho
    | succ d ih =>
      intro q v l2 l3 hd hF hA
      have hqn : q < n := by omega
      have hv1 : v 56 1 = nI n := by rw [hF.2 1 (by decide)]; exact hs
      have i32 : tc_ix (16 + nI q) 32 (16 + q) := ix16 (by omega)
      have i16 : tc_ix (nI q) 16 q := tc_ixN (by omega) (by decide)
      have z58 : v 58 (16 + q) = pm u 16 1 q := by rw [hF.1 58 (by omega), pm_of (by decide)]
      have z59 : (tc_up v 63 q (pm u 16 1 q)) 59 (16 + q) = pm u 16 2 q := by rw [tc_up_ne (by decide), hF.1 59 (by omega), pm_of (by decide)]
      have z60 : (tc_up (tc_up v 63 q (pm u 16 1 q)) 61 q (pm u 16 2 q)) 60 (16 + q) = pm u 16 3 q := by rw [tc_up_ne (by decide), tc_up_ne (by decide), hF.1 60 (by omega), pm_of (by decide)]
      have ha := ih (q + 1) (tc_up (tc_up (tc_up v 63 q (pm u 16 1 q)) 61 q (pm u 16 2 q)) 62 q (pm u 16 3 q)) l2 l3 (by omega) (nr_up (nr_up (nr_up hF (by omega)) (by omega)) (by omega)) (fun i hi => by
        by_cases e : i = q
        · subst e
          refine ⟨?_, ?_, tc_up_self⟩
          · rw [tc_up_ne (by decide), tc_up_ne (by decide), tc_up_self]
          · rw [tc_up_ne (by decide), tc_up_self]
        · have := hA i (by omega)
          refine ⟨?_, ?_, ?_⟩
          · rw [tc_up_ne (by decide), tc_up_ne (by decide), tc_up_at e]; exact this.1
          · rw [tc_up_ne (by decide), tc_up_at e, tc_up_ne (by decide)]; exact this.2.1
          · rw [tc_up_at e, tc_up_ne (by decide), tc_up_ne (by decide)]; exact this.2.2)
      rw [← nI_1] at ha
      refine tv_iload_n (pc := 2) dD_passOn_2 (by rfl) ?_
      refine tv_aload_n (pc := 3) dD_passOn_3 (by rfl) ?_
      refine tv_getI (pc := 4) 1 tb_56 (by rfl) uwD_ (by decide) wm_663 (by rfl) dD_passOn_4 ?_
      refine tv_icmp_ge (pc := 7) 61 dD_passOn_7 (by decide) (fun h => absurd h (by rw [hv1]; exact nI_ge hqn (by omega))) (fun _ => ?_)
      refine tv_aload_n (pc := 10) dD_passOn_10 (by rfl) ?_
      refine tv_getR (pc := 11) 9 tb_56 (by rfl) uwD_ (by decide) wm_671 (by rfl) dD_passOn_11 ?_
      refine tv_iload_n (pc := 14) dD_passOn_14 (by rfl) ?_
      refine tv_aload_n (pc := 15) dD_passOn_15 (by rfl) ?_
      refine tv_getR (pc := 16) 3 tb_56 (by rfl) uwD_ (by decide) wm_665 (by rfl) dD_passOn_16 ?_
      refine tv_bipush (v := 16) (pc := 19) dD_passOn_19 (by decide) ?_
      refine tv_iload_n (pc := 21) dD_passOn_21 (by rfl) ?_
      refine tv_iadd (pc := 22) dD_passOn_22 ?_
      refine tv_iald (pc := 23) tb_58 (by assumption) dD_passOn_23 ?_
      rw [z58]
      refine tv_iast (pc := 24) tb_63 (by assumption) dD_passOn_24 ?_
      refine tv_aload_n (pc := 25) dD_passOn_25 (by rfl) ?_
      refine tv_getR (pc := 26) 7 tb_56 (by rfl) uwD_ (by decide) wm_669 (by rfl) dD_passOn_26 ?_
      refine tv_iload_n (pc := 29) dD_passOn_29 (by rfl) ?_
      refine tv_aload_n (pc := 30) dD_passOn_30 (by rfl) ?_
      refine tv_getR (pc := 31) 4 tb_56 (by rfl) uwD_ (by decide) wm_666 (by rfl) dD_passOn_31 ?_
      refine tv_bipush (v := 16) (pc := 34) dD_passOn_34 (by decide) ?_
      refine tv_iload_n (pc := 36) dD_passOn_36 (by rfl) ?_
      refine tv_iadd (pc := 37) dD_passOn_37 ?_
      refine tv_iald (pc := 38) tb_59 (by assumption) dD_passOn_38 ?_
      rw [z59]
      refine tv_iast (pc := 39) tb_61 (by assumption) dD_passOn_39 ?_
      refine tv_aload_n (pc := 40) dD_passOn_40 (by rfl) ?_
      refine tv_getR (pc := 41) 8 tb_56 (by rfl) uwD_ (by decide) wm_670 (by rfl) dD_passOn_41 ?_
      refine tv_iload_n (pc := 44) dD_passOn_44 (by rfl) ?_
      refine tv_aload_n (pc := 45) dD_passOn_45 (by rfl) ?_
      refine tv_getR (pc := 46) 5 tb_56 (by rfl) uwD_ (by decide) wm_667 (by rfl) dD_passOn_46 ?_
      refine tv_bipush (v := 16) (pc := 49) dD_passOn_49 (by decide) ?_
      refine tv_iload_n (pc := 51) dD_passOn_51 (by rfl) ?_
      refine tv_iadd (pc := 52) dD_passOn_52 ?_
      refine tv_iald (pc := 53) tb_60 (by assumption) dD_passOn_53 ?_
      rw [z60]
      refine tv_iast (pc := 54) tb_62 (by assumption) dD_passOn_54 ?_
      refine tv_iinc1 (v := 1) (pc := 55) dD_passOn_55 (by decide) (by rfl) ?_
      refine tv_goto (pc := 58) 2 dD_passOn_58 (by decide) ?_
      exact ha
  refine tv_iconst (v := 0) (pc := 0) dD_passOn_0 (by decide) ?_
  refine tv_istore1 (pc := 1) dD_passOn_1 (by rfl) ?_
  exact first n 0 u _ _ (by omega) nr_F.rf (fun i hi => absurd hi (by omega))
