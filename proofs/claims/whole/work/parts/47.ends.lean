/-! what a call of both sides has to end in -/
def jE (k b : Int32) (w : tc_S) : Prop := (∃ n, jI n w) ∧ w 56 0 = k ∧ (k = 0 → w 76 0 = b)
theorem tc_C.mono {X : tc_X} {G : tc_G} {l : Launch} {y : MethodName} {ws : List Cond} {rm : Room} {mc ms : Nat} {av : List Value} {u : tc_S} {K K' : Outcome → tc_S → Prop} (h : tc_C X G l y ws rm mc ms av u K) (hK : ∀ o v, K o v → K' o v) : tc_C X G l y ws rm mc ms av u K' :=
  fun sz => Free.MetFree.mono (h sz) (fun _ _ q => q) (fun _ _ _ _ _ q => q) (fun _ _ _ _ _ q => ⟨⟨by obtain ⟨v, h1, h2⟩ := q.1.1; exact ⟨v, hK _ _ h1, h2⟩, q.1.2⟩, q.2⟩)
section JK
variable {G : tc_G} {l : Launch} {y : MethodName} {ws : List Cond} {rm : Room} {av : List Value} {v : tc_S}
theorem jK {k r : Int32} {w : tc_S} (hC : tc_C tcx G l y ws rm 0 0 av v (tc_Ki r w)) (h : jE k r w) : tc_C tcx G l y ws rm 0 0 av v (tc_KI (jE k)) :=
  hC.mono (fun o z hz => ⟨r, hz.1, by rw [hz.2]; exact h⟩)
theorem jKI {k : Int32} {F : Int32 → tc_S → Prop} (hC : tc_C tcx G l y ws rm 0 0 av v (tc_KI F)) (h : ∀ r w, F r w → jE k r w) : tc_C tcx G l y ws rm 0 0 av v (tc_KI (jE k)) :=
  hC.mono (fun o z ⟨r, h1, h2⟩ => ⟨r, h1, h r z h2⟩)
theorem jKv {k : Int32} {w : tc_S} (hC : tc_C tcx G l y ws rm 0 0 av v (tc_Kv w)) (h : ∃ n, jI n w) (h2 : w 56 0 = k) : tc_C tcx G l y ws rm 0 0 av v (tc_KV (fun w => (∃ n, jI n w) ∧ w 56 0 = k)) :=
  hC.mono (fun o z hz => ⟨hz.1, by rw [hz.2]; exact ⟨h, h2⟩⟩)
end JK
theorem j_no {n : Nat} {u : tc_S} (h : jI n u) {k r : Int32} (hk : ¬ k = 0) : jE k r (tc_up u 56 0 k) :=
  ⟨⟨n, h.same (fun q h1 _ => tc_up_ne h1) (fun j hj _ => tc_up_at hj)⟩, tc_up_self, fun e => absurd e hk⟩
theorem j_no2 {n : Nat} {u : tc_S} (h : jI n u) {k x r : Int32} (hk : ¬ k = 0) : jE k r (tc_up (tc_up u 56 0 x) 56 0 k) :=
  ⟨⟨n, h.same (fun q h1 _ => by rw [tc_up_ne h1, tc_up_ne h1]) (fun j hj _ => by rw [tc_up_at hj, tc_up_at hj])⟩, tc_up_self, fun e => absurd e hk⟩
theorem j_an {n : Nat} {u : tc_S} (h : jI n u) {x y : Int32} (e : x = y) : jE 0 y (tc_up (tc_up u 76 0 x) 56 0 0) :=
  ⟨⟨n, h.same (fun q h1 h2 => by rw [tc_up_ne h1, tc_up_ne h2]) (fun j hj _ => by rw [tc_up_at hj, tc_up_ne (by decide)])⟩, tc_up_self, fun _ => by rw [tc_up_ne (by decide), tc_up_self]; exact e⟩
/-- the world with an answer laid by -/
theorem j_76 {n : Nat} {u : tc_S} (h : jI n u) (x : Int32) : jI n (tc_up u 76 0 x) := h.same (fun q _ h2 => tc_up_ne h2) (fun j _ _ => by rw [tc_up_ne (by decide)])
theorem j_ap1 {n : Nat} {u : tc_S} {k a1 a2 a3 : Int32} (h : jI n u) (hn : n < 16) (hl : tp_line (fun j _ => j_a k a1 a2 a3 j) n) (hk : ¬ k = -1) : jE 0 (nI n) (sd_app n k a1 a2 a3 (tc_up (tc_up (st_app n k a1 a2 a3 u) 76 0 (nI n)) 56 0 0)) :=
  ⟨⟨n + 1, j_app h hn hl hk⟩, by simp [sd_app, st_app, tc_up_v], fun _ => by simp [sd_app, st_app, tc_up_v]⟩
theorem j_ap0 {n : Nat} {u : tc_S} {k a1 a2 a3 x : Int32} (h : jI n u) : tc_up (st_app n k a1 a2 a3 u) 76 0 x 56 1 = nI n := by
  rw [tc_up_ne (by decide)]
  unfold st_app
  rw [tc_up_ne (by decide), tc_up_ne (by decide), tc_up_ne (by decide), tc_up_ne (by decide), tc_up_ne (by decide), tc_up_ne (by decide)]
  exact h.1.s2
theorem j_l0 {r c : Int32} {n : Nat} (h : ¬ r < 0 ∧ ¬ 6 ≤ r) : tp_line (fun j _ => j_a 0 r c 0 j) n := by
  obtain ⟨a, ha, ea⟩ := tq_ix (b := 6) (by decide) h
  refine ⟨Or.inr (Or.inl rfl), fun _ => ⟨a, ha, ea⟩, fun q => ?_, fun q => ?_, fun q => ?_, fun q => ?_⟩ <;> (simp only [j_a, reduceIte] at q; exact absurd q (by decide))
theorem j_l1 {r s : Int32} {n : Nat} (h : (¬ r < 0 ∧ ¬ 6 ≤ r) ∧ (¬ s < 0 ∧ ¬ 6 ≤ s)) : tp_line (fun j _ => j_a 1 r s 0 j) n := by
  obtain ⟨a, ha, ea⟩ := tq_ix (b := 6) (by decide) h.1
  obtain ⟨b, hb, eb⟩ := tq_ix (b := 6) (by decide) h.2
  refine ⟨Or.inr (Or.inr (Or.inl rfl)), fun _ => ⟨a, ha, ea⟩, fun _ => ⟨b, hb, eb⟩, fun q => ?_, fun q => ?_, fun q => ?_⟩ <;> (simp only [j_a, reduceIte] at q; exact absurd q (by decide))
theorem j_l2 {r s t : Int32} {n : Nat} (h : (¬ r < 0 ∧ ¬ 6 ≤ r) ∧ (¬ s < 0 ∧ ¬ 6 ≤ s) ∧ (¬ t < 0 ∧ ¬ 6 ≤ t)) : tp_line (fun j _ => j_a 2 r s t j) n := by
  obtain ⟨a, ha, ea⟩ := tq_ix (b := 6) (by decide) h.1
  obtain ⟨b, hb, eb⟩ := tq_ix (b := 6) (by decide) h.2.1
  obtain ⟨c, hc, ec⟩ := tq_ix (b := 6) (by decide) h.2.2
  refine ⟨Or.inr (Or.inr (Or.inr (Or.inl rfl))), fun _ => ⟨a, ha, ea⟩, fun _ => ⟨b, hb, eb⟩, fun q => ?_, fun _ => ⟨c, hc, ec⟩, fun q => ?_⟩ <;> (simp only [j_a, reduceIte] at q; exact absurd q (by decide))
theorem j_l3 {r : Int32} {n : Nat} (h : ¬ r < 0 ∧ ¬ 6 ≤ r) : tp_line (fun j _ => j_a 3 r 0 0 j) n := by
  obtain ⟨a, ha, ea⟩ := tq_ix (b := 6) (by decide) h
  refine ⟨Or.inr (Or.inr (Or.inr (Or.inr (Or.inl rfl)))), fun _ => ⟨a, ha, ea⟩, fun q => ?_, fun q => ?_, fun q => ?_, fun q => ?_⟩ <;> (simp only [j_a, reduceIte] at q; exact absurd q (by decide))
theorem j_l4 {r s : Int32} {n : Nat} (h : (¬ r < 0 ∧ ¬ 6 ≤ r) ∧ (¬ s < 0 ∧ ¬ 17 ≤ s)) : tp_line (fun j _ => j_a 4 r s 0 j) n := by
  obtain ⟨a, ha, ea⟩ := tq_ix (b := 6) (by decide) h.1
  obtain ⟨b, hb, eb⟩ := tq_ix (b := 17) (by decide) h.2
  refine ⟨Or.inr (Or.inr (Or.inr (Or.inr (Or.inr (Or.inl rfl))))), fun _ => ⟨a, ha, ea⟩, fun q => ?_, fun _ => ⟨b, hb, eb⟩, fun q => ?_, fun q => ?_⟩ <;> (simp only [j_a, reduceIte] at q; exact absurd q (by decide))
theorem j_l5 {v r : Int32} {n : Nat} (h : (¬ v < 0 ∧ ¬ 3 ≤ v) ∧ (¬ r < 0 ∧ ¬ 6 ≤ r)) : tp_line (fun j _ => j_a 5 v r 0 j) n := by
  obtain ⟨a, ha, ea⟩ := tq_ix (b := 3) (by decide) h.1
  obtain ⟨b, hb, eb⟩ := tq_ix (b := 6) (by decide) h.2
  refine ⟨Or.inr (Or.inr (Or.inr (Or.inr (Or.inr (Or.inr rfl))))), fun _ => ⟨a, by omega, ea⟩, fun _ => ⟨b, hb, eb⟩, fun q => ?_, fun q => ?_, fun _ => ⟨a, ha, ea⟩⟩ <;> (simp only [j_a, reduceIte] at q; exact absurd q (by decide))
/-! what is read on both sides -/
theorem cn_c {n : Nat} {P Q : tp_P} (h : ag n P Q) : ∀ i, i ≤ n → tp_cn P i = tp_cn Q i
  | 0, _ => rfl
  | i + 1, hi => by rw [tp_cn_s, tp_cn_s, cn_c h i (by omega), h 0 i (by decide) (by omega)]
theorem jM.gm {n : Nat} {u : tc_S} (h : jM n u) : ag n (pm u 16) (pv u 9) := fun j i hj hi => by rw [pm_of hj]; exact h.eq j i hj hi
theorem pm_76 {u : tc_S} {x : Int32} {o : Nat} : pm (tc_up u 76 0 x) o = pm u o := pm_F (fun j hj => tc_up_ne (by omega))
theorem jM.pl {n : Nat} {u : tc_S} (h : jM n u) {q x : Nat} (hq : q ≤ n) (hx : x < 3) : tp_pl n (pm u 0) (pm u 16) q (6 + x) (sk_pf (u (26 + (6 + x)) q) 7 0) :=
  pl_ct (h.ck q hq (6 + x) (by omega)).1 (h.ck q hq (6 + x) (by omega)).2
theorem jM.kr {n : Nat} {u : tc_S} (h : jM n u) {q r : Nat} (hq : q ≤ n) (hr : r < 6) : u (26 + r) q &&& 63 = 63 &&& (u 68 (9 * q + r) ^^^ (-1)) :=
  kr_ct (fun a ha => ((h.ck q hq r (by omega)).1 a ha).trans (h.fc.1 q hq r (by omega) a ha))
theorem j_wh {n q x : Nat} {u w : tc_S} {r : Int32} (h : jI n u) (hM : jM n u) (hq : q ≤ n) (hx : x < 3) (hw : tp_pl n (pm (tc_up u 76 0 (sk_pf (u (26 + (6 + x)) q) 7 0)) 0) (pm (tc_up u 76 0 (sk_pf (u (26 + (6 + x)) q) 7 0)) 16) q (6 + x) r ∧ ic_F (tc_up (tc_up u 76 0 (sk_pf (u (26 + (6 + x)) q) 7 0)) 56 0 0) w) : jE 0 r w := by
  rw [pm_76, pm_76] at hw
  refine ⟨⟨n, h.same (fun q h1 h2 => by rw [hw.2.1 q h1, tc_up_ne h1, tc_up_ne h2]) (fun j h0 h26 => by rw [hw.2.2 j h26, tc_up_at h0, tc_up_ne (by decide)])⟩, by rw [hw.2.2 0 (by decide), tc_up_self], fun _ => ?_⟩
  rw [hw.2.1 76 (by decide), tc_up_ne (by decide), tc_up_self]
  exact tp_pl_one (hM.pl hq hx) hw.1
theorem jM.fc76 {n : Nat} {u : tc_S} {y : Int32} (h : jM n u) : fc_R n (pm (tc_up u 76 0 y) 0) (pm (tc_up u 76 0 y) 16) (tc_up u 76 0 y 68) (tc_up u 76 0 y 69) := by
  rw [pm_76, pm_76, tc_up_ne (by decide), tc_up_ne (by decide)]; exact h.fc
theorem jM.re76 {n : Nat} {u : tc_S} {y : Int32} (h : jM n u) : ∀ i, i ≤ n → tc_up u 76 0 y 65 i = 1 := fun i hi => by rw [tc_up_ne (by decide)]; exact h.re i hi
theorem u76 {u : tc_S} {y z : Int32} {q j : Nat} (hq : q ≠ 76) (h : u q j = z) : tc_up u 76 0 y q j = z := by rw [tc_up_ne hq]; exact h
/-- what reading gives in the model -/
def j_F (n q x : Nat) (v : tc_S) (r0 : Int32) (w : tc_S) : Prop := (∀ c, c ≠ 56 → w c = v c) ∧ (∀ j, j ≠ 0 → j ≠ 26 → w 56 j = v 56 j) ∧ ((tp_pl n (pm v 0) (pm v 16) q (6 + x) (-1) ∧ w 56 0 = 3) ∨ (∃ a, a < 6 ∧ tp_pl n (pm v 0) (pm v 16) q (6 + x) (nI a) ∧ w 56 0 = 0 ∧ r0 = v 72 (6 + a)) ∨ (tp_pl n (pm v 0) (pm v 16) q (6 + x) 6 ∧ w 56 0 = 0 ∧ tp_v n (pm v 0) q (6 + x) r0))
theorem n6 {r : Nat} (hr : r < 6) : ¬ (6 : Int32) = nI r := fun e => by
  rw [show (6 : Int32) = nI 6 from rfl, nI_eq (by decide) (by omega)] at e; omega
theorem j_rF {n q x : Nat} {u w : tc_S} {r0 : Int32} (h : jI n u) (hM : jM n u) (hq : q ≤ n) (hx : x < 3) (hp : sk_pf (u (26 + (6 + x)) q) 7 0 = -1) (hF : j_F n q x u r0 w) : jE 3 r0 w := by
  have hpl := hM.pl hq hx
  rw [hp] at hpl
  obtain ⟨f1, f2, f3⟩ := hF
  refine ⟨⟨n, h.same (fun q h1 h2 => f1 q h1) f2⟩, ?_, fun e => absurd e (by decide)⟩
  rcases f3 with ⟨-, z⟩ | ⟨a, ha, z, -⟩ | ⟨z, -⟩
  · exact z
  · exact absurd (tp_pl_one z hpl) (nI_m1' (by omega))
  · exact absurd (tp_pl_one z hpl) (by decide)
theorem j_rR {n q t c x r : Nat} {u w : tc_S} {r0 : Int32} (h : jI n u) (hM : jM n u) (hR : jR n q t c u) (hq : q ≤ n) (hx : x < 3) (hr : r < 6) (hp : sk_pf (u (26 + (6 + x)) q) 7 0 = nI r) (hF : j_F n q x (tc_up u 76 0 (u 52 r)) r0 w) : jE 0 r0 w := by
  have hpl := hM.pl hq hx
  rw [hp] at hpl
  obtain ⟨f1, f2, f3⟩ := hF
  rw [pm_76, pm_76] at f3
  have hj : jI n w := h.same (fun q h1 h2 => by rw [f1 q h1, tc_up_ne h2]) (fun j h0 h26 => by rw [f2 j h0 h26, tc_up_ne (by decide)])
  rcases f3 with ⟨z, -⟩ | ⟨a, ha, z, z2, z3⟩ | ⟨z, -⟩
  · exact absurd (tp_pl_one hpl z) (nI_m1' (by omega))
  · refine ⟨⟨n, hj⟩, z2, fun _ => ?_⟩
    have e : a = r := (nI_eq (by omega) (by omega)).mp (tp_pl_one z hpl)
    rw [f1 76 (by decide), tc_up_self, z3, tc_up_ne (by decide), e]
    exact hR.r2 r hr
  · exact absurd (tp_pl_one z hpl) (n6 hr)
theorem j_rC {n q x : Nat} {u w : tc_S} {r0 : Int32} (h : jI n u) (hM : jM n u) (hq : q ≤ n) (hx : x < 3) (hp : sk_pf (u (26 + (6 + x)) q) 7 0 = 6) (hF : j_F n q x (tc_up u 76 0 (u (36 + (6 + x)) q)) r0 w) : jE 0 r0 w := by
  have hpl := hM.pl hq hx
  rw [hp] at hpl
  obtain ⟨f1, f2, f3⟩ := hF
  rw [pm_76, pm_76] at f3
  have hj : jI n w := h.same (fun q h1 h2 => by rw [f1 q h1, tc_up_ne h2]) (fun j h0 h26 => by rw [f2 j h0 h26, tc_up_ne (by decide)])
  rcases f3 with ⟨z, -⟩ | ⟨a, ha, z, -⟩ | ⟨z, z2, z3⟩
  · exact absurd (tp_pl_one hpl z) (by decide)
  · exact absurd (tp_pl_one hpl z) (n6 ha)
  · refine ⟨⟨n, hj⟩, z2, fun _ => ?_⟩
    rw [f1 76 (by decide), tc_up_self]
    exact (((hM.ck q hq (6 + x) (by omega)).2 r0).mp z3).2
/-- the place is one of three -/
theorem j_pl {n q x : Nat} {u : tc_S} (hM : jM n u) (hq : q ≤ n) (hx : x < 3) : (∃ r, r < 6 ∧ sk_pf (u (26 + (6 + x)) q) 7 0 = nI r) ∨ sk_pf (u (26 + (6 + x)) q) 7 0 = 6 ∨ sk_pf (u (26 + (6 + x)) q) 7 0 = -1 := by
  rcases hM.pl hq hx with ⟨a, ha, e, -⟩ | ⟨-, ⟨-, e⟩ | ⟨-, e⟩⟩
  · exact Or.inl ⟨a, ha, e⟩
  · exact Or.inr (Or.inl e)
  · exact Or.inr (Or.inr e)
theorem j_stD (l : Launch) (G : tc_G) {n q t c : Nat} {u : tc_S} (h : jI n u) (hm : u 0 5 = 1) (hR : jR n q t c u) (hq : q < n) (ht : t < 200) : tc_C tcx G l yD_step wD_step r0D_step 0 0 [.ref (tc_ad G 56)] (tc_up (sn_step n (pv u 3) (pv u 9) q u) 76 0 (nI (sn_nx n (pv u 3) (pv u 9) q u))) (tc_KI (jE 0)) := by
  have hA := h.1
  have hM := h.2 hm
  have hc := hR.c1
  obtain ⟨j1, j2, j3⟩ := j_step (y := nI (sn_nx n (pv u 3) (pv u 9) q u)) h hm hR hq ht
  have e56 : tc_up (sn_step n (pv u 3) (pv u 9) q u) 76 0 (nI (sn_nx n (pv u 3) (pv u 9) q u)) 56 = u 56 := by rw [tc_up_ne (by decide), sn_step_o (by omega)]
  have pmV : ∀ o, pm (tc_up (sn_step n (pv u 3) (pv u 9) q u) 76 0 (nI (sn_nx n (pv u 3) (pv u 9) q u))) o = pm u o := fun o => pm_F (fun j hj => by rw [tc_up_ne (by omega), sn_step_o (by omega)])
  have agA : ag n (pm u 0) (pv u 3) := fun j i hj hi => by rw [pm_of hj, Nat.zero_add]; exact hA.eq j i hj hi
  refine jK (c_D_step l G _ (n := n) (q := q) (t := t) (c0 := c) (by rw [e56]; exact hA.md.trans hm) (by rw [e56]; exact hA.s2) hA.hn (by rw [e56]; exact hR.a2) hq (by rw [e56]; exact hR.b2) ht (by rw [e56]; exact hR.o3) (by omega) (by rw [pmV]; exact ag_line agA hq (hA.li q hq)) (by rw [pmV]; exact ag_line hM.gm hq (hM.li q hq))) ⟨⟨n, j1⟩, j3, fun _ => ?_⟩
  rw [se_6c (by omega), tc_up_self]
  exact congrArg nI j2
