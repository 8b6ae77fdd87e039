/-! registers that are read; what passing on makes of them -/
theorem tp_c_ne {n : Nat} {P : tp_P} {i s u : Nat} (hi : i ≤ n) (h : tp_c n P i s u) : s ≠ u := by
  obtain ⟨S, hS, h⟩ := h
  intro e
  have := tp_c_lw hS i hi s u h
  rw [e] at this
  omega
theorem tp_p1_q {n : Nat} {P : tp_P} {i j u : Nat} (hi : i ≤ n) (h : tp_rd P i j) (hc : tp_c n P i (tp_n (P j i)) u) : tp_p1 n P j i = nI u := by
  unfold tp_p1
  rw [if_pos ⟨h, u, hc⟩]
  exact tp_org_some hi hc
theorem tp_p1_nq {n : Nat} {P : tp_P} {i j : Nat} (h : ¬ tp_q n P j i) : tp_p1 n P j i = P j i := by unfold tp_p1; rw [if_neg h]
theorem tp_p1_ne {n : Nat} {P : tp_P} {i j : Nat} (hP : ∀ i, i < n → tp_line P i) (hi : i < n) : tp_p1 n P j i = P j i ↔ ¬ tp_q n P j i := by
  refine ⟨fun h => ?_, tp_p1_nq⟩
  rintro ⟨h1, u, h2⟩
  obtain ⟨a, ha, ea⟩ := tp_rd_reg (hP i hi) h1
  rw [tp_p1_q (by omega) h1 h2, ea] at h
  obtain ⟨S, hS, hu⟩ := id h2
  have hu6 := (tp_c_reg hS hP i (by omega) _ _ hu).2
  rw [nI_eq (by omega) (by omega)] at h
  rw [ea, show tp_n (nI a) = a from nI_clamp (by omega)] at h2
  exact tp_c_ne (by omega) h2 h.symm
/-- the new number at a place, after some of the pairs -/
def nv (n : Nat) (P : tp_P) (j T i : Nat) (x : Int32) : Prop := (∀ b, tp_rd P i j → tp_c n P i (tp_n (P j i)) b → 6 * tp_n (P j i) + b < T → x = nI b) ∧ ((¬ ∃ b, tp_rd P i j ∧ tp_c n P i (tp_n (P j i)) b ∧ 6 * tp_n (P j i) + b < T) → x = P j i)
theorem nv_0 {n : Nat} {P : tp_P} {j i : Nat} : nv n P j 0 i (P j i) := ⟨fun b _ _ h => absurd h (by omega), fun _ => rfl⟩
theorem nv_skip {n : Nat} {P : tp_P} {j i a b : Nat} {x : Int32} (hP : ∀ i, i < n → tp_line P i) (hi : i < n) (ha : a < 6) (hb : b < 6) (h : ¬ (tp_c n P i a b ∧ tp_rd P i j ∧ P j i = nI a)) (hx : nv n P j (6 * a + b) i x) : nv n P j (6 * a + b + 1) i x := by
  have key : ∀ b', tp_rd P i j → tp_c n P i (tp_n (P j i)) b' → 6 * tp_n (P j i) + b' < 6 * a + b + 1 → 6 * tp_n (P j i) + b' < 6 * a + b := by
    intro b' h1 h2 h3
    obtain ⟨s, hs, es⟩ := tp_rd_reg (hP i hi) h1
    obtain ⟨S, hS, hu⟩ := id h2
    have hb' := (tp_c_reg hS hP i (by omega) _ _ hu).2
    have en : tp_n (P j i) = s := by rw [es]; exact nI_clamp (by omega)
    rw [en] at h2 h3 ⊢
    refine Classical.byContradiction fun q => h ?_
    have e1 : s = a := by omega
    have e2 : b' = b := by omega
    rw [e1, e2] at h2
    exact ⟨h2, h1, by rw [es, e1]⟩
  refine ⟨fun b' h1 h2 h3 => hx.1 b' h1 h2 (key b' h1 h2 h3), fun hn => hx.2 ?_⟩
  rintro ⟨b', h1, h2, h3⟩
  exact hn ⟨b', h1, h2, by omega⟩
theorem nv_rep {n : Nat} {P : tp_P} {j i a b : Nat} (hi : i < n) (ha : a < 6) (hc : tp_c n P i a b) (hr : tp_rd P i j) (e : P j i = nI a) : nv n P j (6 * a + b + 1) i (nI b) := by
  have en : tp_n (P j i) = a := by rw [e]; exact nI_clamp (by omega)
  refine ⟨fun b' h1 h2 h3 => ?_, fun hn => absurd ⟨b, hr, by rw [en]; exact hc, by rw [en]; omega⟩ hn⟩
  rw [en] at h2
  rw [tp_c_one i (by omega) a b' b h2 hc]
theorem nv_end {n : Nat} {P : tp_P} {j i : Nat} {x : Int32} (hP : ∀ i, i < n → tp_line P i) (hi : i < n) (hx : nv n P j 36 i x) : x = tp_p1 n P j i := by
  by_cases h : tp_q n P j i
  · obtain ⟨h1, b, h2⟩ := h
    obtain ⟨s, hs, es⟩ := tp_rd_reg (hP i hi) h1
    obtain ⟨S, hS, hu⟩ := id h2
    have hb' := (tp_c_reg hS hP i (by omega) _ _ hu).2
    have en : tp_n (P j i) = s := by rw [es]; exact nI_clamp (by omega)
    rw [hx.1 b h1 h2 (by rw [en]; omega), tp_p1_q (by omega) h1 h2]
  · rw [tp_p1_nq h]
    refine hx.2 ?_
    rintro ⟨b, h1, h2, -⟩
    exact h ⟨h1, b, h2⟩
noncomputable def sd_if (c : Prop) (k i : Nat) (x : Int32) (w : tc_S) : tc_S := @ite _ c (Classical.propDecidable c) (tc_up w k i x) w
theorem sd_if_t {c : Prop} {k i : Nat} {x : Int32} {w : tc_S} (h : c) : sd_if c k i x w = tc_up w k i x := by unfold sd_if; rw [if_pos h]
theorem sd_if_f {c : Prop} {k i : Nat} {x : Int32} {w : tc_S} (h : ¬ c) : sd_if c k i x w = w := by unfold sd_if; rw [if_neg h]
theorem sd_if_o {c : Prop} {k i q : Nat} {x : Int32} {w : tc_S} (h : q ≠ k) : sd_if c k i x w q = w q := by
  by_cases z : c
  · rw [sd_if_t z, tc_up_ne h]
  · rw [sd_if_f z]
theorem sd_if_p {c : Prop} {k i p : Nat} {x : Int32} {w : tc_S} (h : p ≠ i) : sd_if c k i x w k p = w k p := by
  by_cases z : c
  · rw [sd_if_t z, tc_up_at h]
  · rw [sd_if_f z]
def rd_e (P : tp_P) (i j a : Nat) : Prop := tp_rd P i j ∧ P j i = nI a
noncomputable def sd_rep (i a b : Nat) (u : tc_S) : tc_S := sd_if (rd_e (pm u 16) i 3 a) 62 i (nI b) (sd_if (rd_e (pm u 16) i 2 a) 61 i (nI b) (sd_if (rd_e (pm u 16) i 1 a) 63 i (nI b) u))
set_option maxRecDepth 100000 in
set_option maxHeartbeats 4000000 in
theorem c_D_replace (l : Launch) (G : tc_G) (u : tc_S) {i a b : Nat} (hi : i < 16) : tc_C tcx G l yD_replace wD_replace r0D_replace 0 0 [.ref (tc_ad G 56), .int (nI i), .int (nI a), .int (nI b)] u (tc_Kv (sd_rep i a b u)) := by
  refine tw_ofV (own := "TracedCodeModel") [some (.ref (tc_ad G 56)), some (.int (nI i)), some (.int (nI a)), some (.int (nI b)), none] (by decide +kernel) rfl (Nat.le_of_ble_eq_true rfl) (by rfl) (fun p e s m args below meth c => ?_)
  have i32 : tc_ix (16 + nI i) 32 (16 + i) := ix16 hi
  have i16 : tc_ix (nI i) 16 i := tc_ixN hi (by decide)
  have e0 : u 57 (16 + i) = pm u 16 0 i := (pm_of (j := 0) (by decide)).symm
  have e1 : u 58 (16 + i) = pm u 16 1 i := (pm_of (j := 1) (by decide)).symm
  have e2 : (sd_if (rd_e (pm u 16) i 1 a) 63 i (nI b) u) 59 (16 + i) = pm u 16 2 i := by rw [sd_if_o (by decide), pm_of (by decide)]
  have e3 : (sd_if (rd_e (pm u 16) i 2 a) 61 i (nI b) (sd_if (rd_e (pm u 16) i 1 a) 63 i (nI b) u)) 60 (16 + i) = pm u 16 3 i := by rw [sd_if_o (by decide), sd_if_o (by decide), pm_of (by decide)]
  have r81 : tc_V tcx G p l e r0D_replace s m args below meth c bD_replace 5 tw "TracedCodeModel" none [] (MQ below (tc_Qc tcx G (tc_Kv (sd_rep i a b u)) s.heap.size) args s 0 0 (tc_A tcx G s.heap.size)) 0 0 (sd_if (rd_e (pm u 16) i 2 a) 61 i (nI b) (sd_if (rd_e (pm u 16) i 1 a) 63 i (nI b) u)) 81 [some (.ref (tc_ad G 56)), some (.int (nI i)), some (.int (nI a)), some (.int (nI b)), some (.int (pm u 16 0 i))] [] := by
    refine tv_iload (pc := 81) dD_replace_81 (by rfl) ?_
    refine tv_iconst (v := 2) (pc := 83) dD_replace_83 (by decide) ?_
    refine tv_icmp_ne (pc := 84) 107 dD_replace_84 (by decide) (fun h84 => ?_) (fun h84 => ?_)
    · skip
      exact tv_vret (pc := 107) dD_replace_107 rfl (Nat.le_refl _) (Nat.le_refl _) (by
      first
        | (have hc : pm u 16 3 i = nI a := (by assumption)
           exact ⟨rfl, by unfold sd_rep; rw [sd_if_t (c := rd_e (pm u 16) i 3 a) ⟨Or.inr (Or.inr ⟨rfl, by assumption⟩), hc⟩]⟩)
        | (have hc : ¬ pm u 16 3 i = nI a := (by assumption)
           exact ⟨rfl, by unfold sd_rep; rw [sd_if_f (c := rd_e (pm u 16) i 3 a) (fun q => hc q.2)]⟩)
        | (have hc : ¬ pm u 16 0 i = 2 := (by assumption)
           exact ⟨rfl, by unfold sd_rep; rw [sd_if_f (c := rd_e (pm u 16) i 3 a) (fun q => by rcases q.1 with ⟨h, -⟩ | ⟨h, -⟩ | ⟨-, h⟩; (· cases h); (· cases h); (· exact hc h))]⟩))
    · skip
      refine tv_aload_n (pc := 87) dD_replace_87 (by rfl) ?_
      refine tv_getR (pc := 88) 5 tb_56 (by rfl) uwD_ (by decide) wm_667 (by rfl) dD_replace_88 ?_
      refine tv_bipush (v := 16) (pc := 91) dD_replace_91 (by decide) ?_
      refine tv_iload_n (pc := 93) dD_replace_93 (by rfl) ?_
      refine tv_iadd (pc := 94) dD_replace_94 ?_
      refine tv_iald (pc := 95) tb_60 (by assumption) dD_replace_95 ?_
      rw [e3]
      refine tv_iload_n (pc := 96) dD_replace_96 (by rfl) ?_
      refine tv_icmp_ne (pc := 97) 107 dD_replace_97 (by decide) (fun h97 => ?_) (fun h97 => ?_)
      · skip
        exact tv_vret (pc := 107) dD_replace_107 rfl (Nat.le_refl _) (Nat.le_refl _) (by
      first
        | (have hc : pm u 16 3 i = nI a := (by assumption)
           exact ⟨rfl, by unfold sd_rep; rw [sd_if_t (c := rd_e (pm u 16) i 3 a) ⟨Or.inr (Or.inr ⟨rfl, by assumption⟩), hc⟩]⟩)
        | (have hc : ¬ pm u 16 3 i = nI a := (by assumption)
           exact ⟨rfl, by unfold sd_rep; rw [sd_if_f (c := rd_e (pm u 16) i 3 a) (fun q => hc q.2)]⟩)
        | (have hc : ¬ pm u 16 0 i = 2 := (by assumption)
           exact ⟨rfl, by unfold sd_rep; rw [sd_if_f (c := rd_e (pm u 16) i 3 a) (fun q => by rcases q.1 with ⟨h, -⟩ | ⟨h, -⟩ | ⟨-, h⟩; (· cases h); (· cases h); (· exact hc h))]⟩))
      · skip
        refine tv_aload_n (pc := 100) dD_replace_100 (by rfl) ?_
        refine tv_getR (pc := 101) 8 tb_56 (by rfl) uwD_ (by decide) wm_670 (by rfl) dD_replace_101 ?_
        refine tv_iload_n (pc := 104) dD_replace_104 (by rfl) ?_
        refine tv_iload_n (pc := 105) dD_replace_105 (by rfl) ?_
        refine tv_iast (pc := 106) tb_62 (by assumption) dD_replace_106 ?_
        exact tv_vret (pc := 107) dD_replace_107 rfl (Nat.le_refl _) (Nat.le_refl _) (by
      first
        | (have hc : pm u 16 3 i = nI a := (by assumption)
           exact ⟨rfl, by unfold sd_rep; rw [sd_if_t (c := rd_e (pm u 16) i 3 a) ⟨Or.inr (Or.inr ⟨rfl, by assumption⟩), hc⟩]⟩)
        | (have hc : ¬ pm u 16 3 i = nI a := (by assumption)
           exact ⟨rfl, by unfold sd_rep; rw [sd_if_f (c := rd_e (pm u 16) i 3 a) (fun q => hc q.2)]⟩)
        | (have hc : ¬ pm u 16 0 i = 2 := (by assumption)
           exact ⟨rfl, by unfold sd_rep; rw [sd_if_f (c := rd_e (pm u 16) i 3 a) (fun q => by rcases q.1 with ⟨h, -⟩ | ⟨h, -⟩ | ⟨-, h⟩; (· cases h); (· cases h); (· exact hc h))]⟩))
  have r43 : tc_V tcx G p l e r0D_replace s m args below meth c bD_replace 5 tw "TracedCodeModel" none [] (MQ below (tc_Qc tcx G (tc_Kv (sd_rep i a b u)) s.heap.size) args s 0 0 (tc_A tcx G s.heap.size)) 0 0 (sd_if (rd_e (pm u 16) i 1 a) 63 i (nI b) u) 43 [some (.ref (tc_ad G 56)), some (.int (nI i)), some (.int (nI a)), some (.int (nI b)), some (.int (pm u 16 0 i))] [] := by
    refine tv_iload (pc := 43) dD_replace_43 (by rfl) ?_
    refine tv_iconst (v := 1) (pc := 45) dD_replace_45 (by decide) ?_
    refine tv_icmp_eq (pc := 46) 61 dD_replace_46 (by decide) (fun h46 => ?_) (fun h46 => ?_)
    · skip
      refine tv_aload_n (pc := 61) dD_replace_61 (by rfl) ?_
      refine tv_getR (pc := 62) 4 tb_56 (by rfl) uwD_ (by decide) wm_666 (by rfl) dD_replace_62 ?_
      refine tv_bipush (v := 16) (pc := 65) dD_replace_65 (by decide) ?_
      refine tv_iload_n (pc := 67) dD_replace_67 (by rfl) ?_
      refine tv_iadd (pc := 68) dD_replace_68 ?_
      refine tv_iald (pc := 69) tb_59 (by assumption) dD_replace_69 ?_
      rw [e2]
      refine tv_iload_n (pc := 70) dD_replace_70 (by rfl) ?_
      refine tv_icmp_ne (pc := 71) 81 dD_replace_71 (by decide) (fun h71 => ?_) (fun h71 => ?_)
      · skip
        first
        | (have hc : pm u 16 2 i = nI a := (by assumption)
           rw [sd_if_t (c := rd_e (pm u 16) i 2 a) ⟨Or.inr (Or.inl ⟨rfl, by first | exact Or.inl (by assumption) | exact Or.inr (Or.inl (by assumption)) | exact Or.inr (Or.inr (by assumption))⟩), hc⟩] at r81
           exact r81)
        | (have hc : ¬ pm u 16 2 i = nI a := (by assumption)
           rw [sd_if_f (c := rd_e (pm u 16) i 2 a) (fun q => hc q.2)] at r81
           exact r81)
        | (have h1 : ¬ pm u 16 0 i = 1 := (by assumption)
           have h2 : ¬ pm u 16 0 i = 2 := (by assumption)
           have h5 : ¬ pm u 16 0 i = 5 := (by assumption)
           rw [sd_if_f (c := rd_e (pm u 16) i 2 a) (fun q => by rcases q.1 with ⟨h, -⟩ | ⟨-, h⟩ | ⟨h, -⟩; (· cases h); (· exact h.elim h1 (fun h => h.elim h2 h5)); (· cases h))] at r81
           exact r81)
      · skip
        refine tv_aload_n (pc := 74) dD_replace_74 (by rfl) ?_
        refine tv_getR (pc := 75) 7 tb_56 (by rfl) uwD_ (by decide) wm_669 (by rfl) dD_replace_75 ?_
        refine tv_iload_n (pc := 78) dD_replace_78 (by rfl) ?_
        refine tv_iload_n (pc := 79) dD_replace_79 (by rfl) ?_
        refine tv_iast (pc := 80) tb_61 (by assumption) dD_replace_80 ?_
        first
        | (have hc : pm u 16 2 i = nI a := (by assumption)
           rw [sd_if_t (c := rd_e (pm u 16) i 2 a) ⟨Or.inr (Or.inl ⟨rfl, by first | exact Or.inl (by assumption) | exact Or.inr (Or.inl (by assumption)) | exact Or.inr (Or.inr (by assumption))⟩), hc⟩] at r81
           exact r81)
        | (have hc : ¬ pm u 16 2 i = nI a := (by assumption)
           rw [sd_if_f (c := rd_e (pm u 16) i 2 a) (fun q => hc q.2)] at r81
           exact r81)
        | (have h1 : ¬ pm u 16 0 i = 1 := (by assumption)
           have h2 : ¬ pm u 16 0 i = 2 := (by assumption)
           have h5 : ¬ pm u 16 0 i = 5 := (by assumption)
           rw [sd_if_f (c := rd_e (pm u 16) i 2 a) (fun q => by rcases q.1 with ⟨h, -⟩ | ⟨-, h⟩ | ⟨h, -⟩; (· cases h); (· exact h.elim h1 (fun h => h.elim h2 h5)); (· cases h))] at r81
           exact r81)
    · skip
      refine tv_iload (pc := 49) dD_replace_49 (by rfl) ?_
      refine tv_iconst (v := 2) (pc := 51) dD_replace_51 (by decide) ?_
      refine tv_icmp_eq (pc := 52) 61 dD_replace_52 (by decide) (fun h52 => ?_) (fun h52 => ?_)
      · skip
        refine tv_aload_n (pc := 61) dD_replace_61 (by rfl) ?_
        refine tv_getR (pc := 62) 4 tb_56 (by rfl) uwD_ (by decide) wm_666 (by rfl) dD_replace_62 ?_
        refine tv_bipush (v := 16) (pc := 65) dD_replace_65 (by decide) ?_
        refine tv_iload_n (pc := 67) dD_replace_67 (by rfl) ?_
        refine tv_iadd (pc := 68) dD_replace_68 ?_
        refine tv_iald (pc := 69) tb_59 (by assumption) dD_replace_69 ?_
        rw [e2]
        refine tv_iload_n (pc := 70) dD_replace_70 (by rfl) ?_
        refine tv_icmp_ne (pc := 71) 81 dD_replace_71 (by decide) (fun h71 => ?_) (fun h71 => ?_)
        · skip
          first
          | (have hc : pm u 16 2 i = nI a := (by assumption)
             rw [sd_if_t (c := rd_e (pm u 16) i 2 a) ⟨Or.inr (Or.inl ⟨rfl, by first | exact Or.inl (by assumption) | exact Or.inr (Or.inl (by assumption)) | exact Or.inr (Or.inr (by assumption))⟩), hc⟩] at r81
             exact r81)
          | (have hc : ¬ pm u 16 2 i = nI a := (by assumption)
             rw [sd_if_f (c := rd_e (pm u 16) i 2 a) (fun q => hc q.2)] at r81
             exact r81)
          | (have h1 : ¬ pm u 16 0 i = 1 := (by assumption)
             have h2 : ¬ pm u 16 0 i = 2 := (by assumption)
             have h5 : ¬ pm u 16 0 i = 5 := (by assumption)
             rw [sd_if_f (c := rd_e (pm u 16) i 2 a) (fun q => by rcases q.1 with ⟨h, -⟩ | ⟨-, h⟩ | ⟨h, -⟩; (· cases h); (· exact h.elim h1 (fun h => h.elim h2 h5)); (· cases h))] at r81
             exact r81)
        · skip
          refine tv_aload_n (pc := 74) dD_replace_74 (by rfl) ?_
          refine tv_getR (pc := 75) 7 tb_56 (by rfl) uwD_ (by decide) wm_669 (by rfl) dD_replace_75 ?_
          refine tv_iload_n (pc := 78) dD_replace_78 (by rfl) ?_
          refine tv_iload_n (pc := 79) dD_replace_79 (by rfl) ?_
          refine tv_iast (pc := 80) tb_61 (by assumption) dD_replace_80 ?_
          first
          | (have hc : pm u 16 2 i = nI a := (by assumption)
             rw [sd_if_t (c := rd_e (pm u 16) i 2 a) ⟨Or.inr (Or.inl ⟨rfl, by first | exact Or.inl (by assumption) | exact Or.inr (Or.inl (by assumption)) | exact Or.inr (Or.inr (by assumption))⟩), hc⟩] at r81
             exact r81)
          | (have hc : ¬ pm u 16 2 i = nI a := (by assumption)
             rw [sd_if_f (c := rd_e (pm u 16) i 2 a) (fun q => hc q.2)] at r81
             exact r81)
          | (have h1 : ¬ pm u 16 0 i = 1 := (by assumption)
             have h2 : ¬ pm u 16 0 i = 2 := (by assumption)
             have h5 : ¬ pm u 16 0 i = 5 := (by assumption)
             rw [sd_if_f (c := rd_e (pm u 16) i 2 a) (fun q => by rcases q.1 with ⟨h, -⟩ | ⟨-, h⟩ | ⟨h, -⟩; (· cases h); (· exact h.elim h1 (fun h => h.elim h2 h5)); (· cases h))] at r81
             exact r81)
      · skip
        refine tv_iload (pc := 55) dD_replace_55 (by rfl) ?_
        refine tv_iconst (v := 5) (pc := 57) dD_replace_57 (by decide) ?_
        refine tv_icmp_ne (pc := 58) 81 dD_replace_58 (by decide) (fun h58 => ?_) (fun h58 => ?_)
        · skip
          first
          | (have hc : pm u 16 2 i = nI a := (by assumption)
             rw [sd_if_t (c := rd_e (pm u 16) i 2 a) ⟨Or.inr (Or.inl ⟨rfl, by first | exact Or.inl (by assumption) | exact Or.inr (Or.inl (by assumption)) | exact Or.inr (Or.inr (by assumption))⟩), hc⟩] at r81
             exact r81)
          | (have hc : ¬ pm u 16 2 i = nI a := (by assumption)
             rw [sd_if_f (c := rd_e (pm u 16) i 2 a) (fun q => hc q.2)] at r81
             exact r81)
          | (have h1 : ¬ pm u 16 0 i = 1 := (by assumption)
             have h2 : ¬ pm u 16 0 i = 2 := (by assumption)
             have h5 : ¬ pm u 16 0 i = 5 := (by assumption)
             rw [sd_if_f (c := rd_e (pm u 16) i 2 a) (fun q => by rcases q.1 with ⟨h, -⟩ | ⟨-, h⟩ | ⟨h, -⟩; (· cases h); (· exact h.elim h1 (fun h => h.elim h2 h5)); (· cases h))] at r81
             exact r81)
        · skip
          refine tv_aload_n (pc := 61) dD_replace_61 (by rfl) ?_
          refine tv_getR (pc := 62) 4 tb_56 (by rfl) uwD_ (by decide) wm_666 (by rfl) dD_replace_62 ?_
          refine tv_bipush (v := 16) (pc := 65) dD_replace_65 (by decide) ?_
          refine tv_iload_n (pc := 67) dD_replace_67 (by rfl) ?_
          refine tv_iadd (pc := 68) dD_replace_68 ?_
          refine tv_iald (pc := 69) tb_59 (by assumption) dD_replace_69 ?_
          rw [e2]
          refine tv_iload_n (pc := 70) dD_replace_70 (by rfl) ?_
          refine tv_icmp_ne (pc := 71) 81 dD_replace_71 (by decide) (fun h71 => ?_) (fun h71 => ?_)
          · skip
            first
            | (have hc : pm u 16 2 i = nI a := (by assumption)
               rw [sd_if_t (c := rd_e (pm u 16) i 2 a) ⟨Or.inr (Or.inl ⟨rfl, by first | exact Or.inl (by assumption) | exact Or.inr (Or.inl (by assumption)) | exact Or.inr (Or.inr (by assumption))⟩), hc⟩] at r81
               exact r81)
            | (have hc : ¬ pm u 16 2 i = nI a := (by assumption)
               rw [sd_if_f (c := rd_e (pm u 16) i 2 a) (fun q => hc q.2)] at r81
               exact r81)
            | (have h1 : ¬ pm u 16 0 i = 1 := (by assumption)
               have h2 : ¬ pm u 16 0 i = 2 := (by assumption)
               have h5 : ¬ pm u 16 0 i = 5 := (by assumption)
               rw [sd_if_f (c := rd_e (pm u 16) i 2 a) (fun q => by rcases q.1 with ⟨h, -⟩ | ⟨-, h⟩ | ⟨h, -⟩; (· cases h); (· exact h.elim h1 (fun h => h.elim h2 h5)); (· cases h))] at r81
               exact r81)
          · skip
            refine tv_aload_n (pc := 74) dD_replace_74 (by rfl) ?_
            refine tv_getR (pc := 75) 7 tb_56 (by rfl) uwD_ (by decide) wm_669 (by rfl) dD_replace_75 ?_
            refine tv_iload_n (pc := 78) dD_replace_78 (by rfl) ?_
            refine tv_iload_n (pc := 79) dD_replace_79 (by rfl) ?_
            refine tv_iast (pc := 80) tb_61 (by assumption) dD_replace_80 ?_
            first
            | (have hc : pm u 16 2 i = nI a := (by assumption)
               rw [sd_if_t (c := rd_e (pm u 16) i 2 a) ⟨Or.inr (Or.inl ⟨rfl, by first | exact Or.inl (by assumption) | exact Or.inr (Or.inl (by assumption)) | exact Or.inr (Or.inr (by assumption))⟩), hc⟩] at r81
               exact r81)
            | (have hc : ¬ pm u 16 2 i = nI a := (by assumption)
               rw [sd_if_f (c := rd_e (pm u 16) i 2 a) (fun q => hc q.2)] at r81
               exact r81)
            | (have h1 : ¬ pm u 16 0 i = 1 := (by assumption)
               have h2 : ¬ pm u 16 0 i = 2 := (by assumption)
               have h5 : ¬ pm u 16 0 i = 5 := (by assumption)
               rw [sd_if_f (c := rd_e (pm u 16) i 2 a) (fun q => by rcases q.1 with ⟨h, -⟩ | ⟨-, h⟩ | ⟨h, -⟩; (· cases h); (· exact h.elim h1 (fun h => h.elim h2 h5)); (· cases h))] at r81
               exact r81)
  refine tv_aload_n (pc := 0) dD_replace_0 (by rfl) ?_
  refine tv_getR (pc := 1) 2 tb_56 (by rfl) uwD_ (by decide) wm_664 (by rfl) dD_replace_1 ?_
  refine tv_bipush (v := 16) (pc := 4) dD_replace_4 (by decide) ?_
  refine tv_iload_n (pc := 6) dD_replace_6 (by rfl) ?_
  refine tv_iadd (pc := 7) dD_replace_7 ?_
  refine tv_iald (pc := 8) tb_57 (by assumption) dD_replace_8 ?_
  rw [e0]
  refine tv_istore4 (pc := 9) dD_replace_9 (by rfl) ?_
  refine tv_iload (pc := 11) dD_replace_11 (by rfl) ?_
  refine tv_iconst (v := 3) (pc := 13) dD_replace_13 (by decide) ?_
  refine tv_icmp_eq (pc := 14) 23 dD_replace_14 (by decide) (fun h14 => ?_) (fun h14 => ?_)
  · skip
    refine tv_aload_n (pc := 23) dD_replace_23 (by rfl) ?_
    refine tv_getR (pc := 24) 3 tb_56 (by rfl) uwD_ (by decide) wm_665 (by rfl) dD_replace_24 ?_
    refine tv_bipush (v := 16) (pc := 27) dD_replace_27 (by decide) ?_
    refine tv_iload_n (pc := 29) dD_replace_29 (by rfl) ?_
    refine tv_iadd (pc := 30) dD_replace_30 ?_
    refine tv_iald (pc := 31) tb_58 (by assumption) dD_replace_31 ?_
    rw [e1]
    refine tv_iload_n (pc := 32) dD_replace_32 (by rfl) ?_
    refine tv_icmp_ne (pc := 33) 43 dD_replace_33 (by decide) (fun h33 => ?_) (fun h33 => ?_)
    · skip
      first
      | (have hc : pm u 16 1 i = nI a := (by assumption)
         rw [sd_if_t (c := rd_e (pm u 16) i 1 a) ⟨Or.inl ⟨rfl, by first | exact Or.inl (by assumption) | exact Or.inr (by assumption)⟩, hc⟩] at r43
         exact r43)
      | (have hc : ¬ pm u 16 1 i = nI a := (by assumption)
         rw [sd_if_f (c := rd_e (pm u 16) i 1 a) (fun q => hc q.2)] at r43
         exact r43)
      | (have h1 : ¬ pm u 16 0 i = 3 := (by assumption)
         have h2 : ¬ pm u 16 0 i = 4 := (by assumption)
         rw [sd_if_f (c := rd_e (pm u 16) i 1 a) (fun q => by rcases q.1 with ⟨-, h⟩ | ⟨h, -⟩ | ⟨h, -⟩; (· exact h.elim h1 h2); (· cases h); (· cases h))] at r43
         exact r43)
    · skip
      refine tv_aload_n (pc := 36) dD_replace_36 (by rfl) ?_
      refine tv_getR (pc := 37) 9 tb_56 (by rfl) uwD_ (by decide) wm_671 (by rfl) dD_replace_37 ?_
      refine tv_iload_n (pc := 40) dD_replace_40 (by rfl) ?_
      refine tv_iload_n (pc := 41) dD_replace_41 (by rfl) ?_
      refine tv_iast (pc := 42) tb_63 (by assumption) dD_replace_42 ?_
      first
      | (have hc : pm u 16 1 i = nI a := (by assumption)
         rw [sd_if_t (c := rd_e (pm u 16) i 1 a) ⟨Or.inl ⟨rfl, by first | exact Or.inl (by assumption) | exact Or.inr (by assumption)⟩, hc⟩] at r43
         exact r43)
      | (have hc : ¬ pm u 16 1 i = nI a := (by assumption)
         rw [sd_if_f (c := rd_e (pm u 16) i 1 a) (fun q => hc q.2)] at r43
         exact r43)
      | (have h1 : ¬ pm u 16 0 i = 3 := (by assumption)
         have h2 : ¬ pm u 16 0 i = 4 := (by assumption)
         rw [sd_if_f (c := rd_e (pm u 16) i 1 a) (fun q => by rcases q.1 with ⟨-, h⟩ | ⟨h, -⟩ | ⟨h, -⟩; (· exact h.elim h1 h2); (· cases h); (· cases h))] at r43
         exact r43)
  · skip
    refine tv_iload (pc := 17) dD_replace_17 (by rfl) ?_
    refine tv_iconst (v := 4) (pc := 19) dD_replace_19 (by decide) ?_
    refine tv_icmp_ne (pc := 20) 43 dD_replace_20 (by decide) (fun h20 => ?_) (fun h20 => ?_)
    · skip
      first
      | (have hc : pm u 16 1 i = nI a := (by assumption)
         rw [sd_if_t (c := rd_e (pm u 16) i 1 a) ⟨Or.inl ⟨rfl, by first | exact Or.inl (by assumption) | exact Or.inr (by assumption)⟩, hc⟩] at r43
         exact r43)
      | (have hc : ¬ pm u 16 1 i = nI a := (by assumption)
         rw [sd_if_f (c := rd_e (pm u 16) i 1 a) (fun q => hc q.2)] at r43
         exact r43)
      | (have h1 : ¬ pm u 16 0 i = 3 := (by assumption)
         have h2 : ¬ pm u 16 0 i = 4 := (by assumption)
         rw [sd_if_f (c := rd_e (pm u 16) i 1 a) (fun q => by rcases q.1 with ⟨-, h⟩ | ⟨h, -⟩ | ⟨h, -⟩; (· exact h.elim h1 h2); (· cases h); (· cases h))] at r43
         exact r43)
    · skip
      refine tv_aload_n (pc := 23) dD_replace_23 (by rfl) ?_
      refine tv_getR (pc := 24) 3 tb_56 (by rfl) uwD_ (by decide) wm_665 (by rfl) dD_replace_24 ?_
      refine tv_bipush (v := 16) (pc := 27) dD_replace_27 (by decide) ?_
      refine tv_iload_n (pc := 29) dD_replace_29 (by rfl) ?_
      refine tv_iadd (pc := 30) dD_replace_30 ?_
      refine tv_iald (pc := 31) tb_58 (by assumption) dD_replace_31 ?_
      rw [e1]
      refine tv_iload_n (pc := 32) dD_replace_32 (by rfl) ?_
      refine tv_icmp_ne (pc := 33) 43 dD_replace_33 (by decide) (fun h33 => ?_) (fun h33 => ?_)
      · skip
        first
        | (have hc : pm u 16 1 i = nI a := (by assumption)
           rw [sd_if_t (c := rd_e (pm u 16) i 1 a) ⟨Or.inl ⟨rfl, by first | exact Or.inl (by assumption) | exact Or.inr (by assumption)⟩, hc⟩] at r43
           exact r43)
        | (have hc : ¬ pm u 16 1 i = nI a := (by assumption)
           rw [sd_if_f (c := rd_e (pm u 16) i 1 a) (fun q => hc q.2)] at r43
           exact r43)
        | (have h1 : ¬ pm u 16 0 i = 3 := (by assumption)
           have h2 : ¬ pm u 16 0 i = 4 := (by assumption)
           rw [sd_if_f (c := rd_e (pm u 16) i 1 a) (fun q => by rcases q.1 with ⟨-, h⟩ | ⟨h, -⟩ | ⟨h, -⟩; (· exact h.elim h1 h2); (· cases h); (· cases h))] at r43
           exact r43)
      · skip
        refine tv_aload_n (pc := 36) dD_replace_36 (by rfl) ?_
        refine tv_getR (pc := 37) 9 tb_56 (by rfl) uwD_ (by decide) wm_671 (by rfl) dD_replace_37 ?_
        refine tv_iload_n (pc := 40) dD_replace_40 (by rfl) ?_
        refine tv_iload_n (pc := 41) dD_replace_41 (by rfl) ?_
        refine tv_iast (pc := 42) tb_63 (by assumption) dD_replace_42 ?_
        first
        | (have hc : pm u 16 1 i = nI a := (by assumption)
           rw [sd_if_t (c := rd_e (pm u 16) i 1 a) ⟨Or.inl ⟨rfl, by first | exact Or.inl (by assumption) | exact Or.inr (by assumption)⟩, hc⟩] at r43
           exact r43)
        | (have hc : ¬ pm u 16 1 i = nI a := (by assumption)
           rw [sd_if_f (c := rd_e (pm u 16) i 1 a) (fun q => hc q.2)] at r43
           exact r43)
        | (have h1 : ¬ pm u 16 0 i = 3 := (by assumption)
           have h2 : ¬ pm u 16 0 i = 4 := (by assumption)
           rw [sd_if_f (c := rd_e (pm u 16) i 1 a) (fun q => by rcases q.1 with ⟨-, h⟩ | ⟨h, -⟩ | ⟨h, -⟩; (· exact h.elim h1 h2); (· cases h); (· cases h))] at r43
           exact r43)
/-- frames: of the new numbers, of a whole pass -/
def nr_F (u v : tc_S) : Prop := (∀ q, q < 56 ∨ (57 ≤ q ∧ q ≤ 60) ∨ q = 64 ∨ q = 65 ∨ 68 ≤ q → v q = u q) ∧ ∀ j, j ≠ 14 → v 56 j = u 56 j
theorem nr_F.rf {u : tc_S} : nr_F u u := ⟨fun _ _ => rfl, fun _ _ => rfl⟩
theorem nr_pm {u v : tc_S} (h : nr_F u v) (o : Nat) : pm v o = pm u o := by
  funext j i
  unfold pm
  by_cases hj : j < 4
  · rw [if_pos hj, if_pos hj, h.1 (57 + j) (by omega)]
  · rw [if_neg hj, if_neg hj]
theorem nr_df {u v w : tc_S} (h : nr_F u v) (h2 : df_F v w) : nr_F u w := ⟨fun q hq => (h2.1 q (by omega) (by omega) (by omega)).trans (h.1 q hq), fun j hj => (h2.2 j hj).trans (h.2 j hj)⟩
theorem nr_if {u v : tc_S} {c : Prop} {k i : Nat} {x : Int32} (h : nr_F u v) (hk : 61 ≤ k ∧ k ≤ 63) : nr_F u (sd_if c k i x v) := ⟨fun q hq => (sd_if_o (by omega)).trans (h.1 q hq), fun j hj => by rw [sd_if_o (by omega)]; exact h.2 j hj⟩
theorem nr_up {u v : tc_S} {k i : Nat} {x : Int32} (h : nr_F u v) (hk : 61 ≤ k ∧ k ≤ 63) : nr_F u (tc_up v k i x) := ⟨fun q hq => (tc_up_ne (by omega)).trans (h.1 q hq), fun j hj => by rw [tc_up_ne (by omega)]; exact h.2 j hj⟩
/-- the new numbers, the bound of pairs by line -/
def nv_A (n : Nat) (P : tp_P) (T : Nat → Nat) (v : tc_S) : Prop := ∀ i, i < n → nv n P 1 (T i) i (v 63 i) ∧ nv n P 2 (T i) i (v 61 i) ∧ nv n P 3 (T i) i (v 62 i)
theorem nv_Adf {n : Nat} {P : tp_P} {T : Nat → Nat} {v w : tc_S} (h : nv_A n P T v) (h2 : df_F v w) : nv_A n P T w := fun i hi => by
  rw [h2.1 63 (by decide) (by decide) (by decide), h2.1 61 (by decide) (by decide) (by decide), h2.1 62 (by decide) (by decide) (by decide)]
  exact h i hi
def nv_T (a b p i : Nat) : Nat := if i < p then 6 * a + b + 1 else 6 * a + b
theorem nv_T_s {n : Nat} {P : tp_P} {a b p : Nat} {v w : tc_S} (h : nv_A n P (nv_T a b p) v) (hp : p < n) (ho : ∀ i, i ≠ p → w 63 i = v 63 i ∧ w 61 i = v 61 i ∧ w 62 i = v 62 i) (hw : nv n P 1 (6 * a + b) p (v 63 p) → nv n P 2 (6 * a + b) p (v 61 p) → nv n P 3 (6 * a + b) p (v 62 p) → nv n P 1 (6 * a + b + 1) p (w 63 p) ∧ nv n P 2 (6 * a + b + 1) p (w 61 p) ∧ nv n P 3 (6 * a + b + 1) p (w 62 p)) : nv_A n P (nv_T a b (p + 1)) w := by
  intro i hi
  by_cases e : i = p
  · subst e
    have h1 := h i hi
    rw [show nv_T a b i i = 6 * a + b by unfold nv_T; rw [if_neg (by omega)]] at h1
    rw [show nv_T a b (i + 1) i = 6 * a + b + 1 by unfold nv_T; rw [if_pos (by omega)]]
    exact hw h1.1 h1.2.1 h1.2.2
  · have h1 := h i hi
    rw [(ho i e).1, (ho i e).2.1, (ho i e).2.2, show nv_T a b (p + 1) i = nv_T a b p i by unfold nv_T; by_cases q : i < p; (· rw [if_pos (by omega), if_pos q]); (· rw [if_neg (by omega), if_neg q])]
    exact h1
theorem nv_A_congr {n : Nat} {P : tp_P} {T T' : Nat → Nat} {v : tc_S} (h : nv_A n P T v) (e : ∀ i, i < n → T' i = T i) : nv_A n P T' v := fun i hi => by rw [e i hi]; exact h i hi
theorem nv_A_skip {n : Nat} {P : tp_P} {a : Nat} {v : tc_S} (hP : ∀ i, i < n → tp_line P i) (ha : a < 6) (h : nv_A n P (fun _ => 6 * a + a) v) : nv_A n P (fun _ => 6 * a + a + 1) v := fun i hi => by
  have hn : ∀ j, ¬ (tp_c n P i a a ∧ tp_rd P i j ∧ P j i = nI a) := fun j q => tp_c_ne (by omega) q.1 rfl
  obtain ⟨h1, h2, h3⟩ := h i hi
  exact ⟨nv_skip hP hi ha ha (hn 1) h1, nv_skip hP hi ha ha (hn 2) h2, nv_skip hP hi ha ha (hn 3) h3⟩
theorem sd_rep_v {i a b : Nat} {u : tc_S} : (∀ p, p ≠ i → sd_rep i a b u 63 p = u 63 p ∧ sd_rep i a b u 61 p = u 61 p ∧ sd_rep i a b u 62 p = u 62 p) ∧ (sd_rep i a b u 63 i = @ite _ (rd_e (pm u 16) i 1 a) (Classical.propDecidable _) (nI b) (u 63 i)) ∧ (sd_rep i a b u 61 i = @ite _ (rd_e (pm u 16) i 2 a) (Classical.propDecidable _) (nI b) (u 61 i)) ∧ (sd_rep i a b u 62 i = @ite _ (rd_e (pm u 16) i 3 a) (Classical.propDecidable _) (nI b) (u 62 i)) := by
  have one : ∀ (c : Prop) (k : Nat) (w : tc_S), sd_if c k i (nI b) w k i = @ite _ c (Classical.propDecidable _) (nI b) (w k i) := fun c k w => by
    by_cases z : c
    · rw [sd_if_t z, tc_up_self, if_pos z]
    · rw [sd_if_f z, if_neg z]
  unfold sd_rep
  refine ⟨fun p hp => ⟨?_, ?_, ?_⟩, ?_, ?_, ?_⟩
  · rw [sd_if_o (by decide), sd_if_o (by decide), sd_if_p hp]
  · rw [sd_if_o (by decide), sd_if_p hp, sd_if_o (by decide)]
  · rw [sd_if_p hp, sd_if_o (by decide), sd_if_o (by decide)]
  · rw [sd_if_o (by decide), sd_if_o (by decide), one]
  · rw [sd_if_o (by decide), one, sd_if_o (by decide)]
  · rw [one, sd_if_o (by decide), sd_if_o (by decide)]
theorem nv_rep_i {n : Nat} {P : tp_P} {j i a b : Nat} {x : Int32} (hP : ∀ i, i < n → tp_line P i) (hi : i < n) (ha : a < 6) (hb : b < 6) (hc : tp_c n P i a b) (hx : nv n P j (6 * a + b) i x) : nv n P j (6 * a + b + 1) i (@ite _ (rd_e P i j a) (Classical.propDecidable _) (nI b) x) := by
  by_cases z : rd_e P i j a
  · rw [if_pos z]; exact nv_rep hi ha hc z.1 z.2
  · rw [if_neg z]; exact nv_skip hP hi ha hb (fun q => z q.2) hx
