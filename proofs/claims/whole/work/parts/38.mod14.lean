/-- a line is done in the model -/
def sd_do (P : tp_P) (i f b c : Nat) (u : tc_S) : tc_S :=
  if P 0 i = 0 then tc_up u 72 (f + tp_n (P 1 i)) (P 2 i)
  else if P 0 i = 1 then tc_up u 72 (f + tp_n (P 1 i)) (u 72 (f + tp_n (P 2 i)))
  else if P 0 i = 2 then tc_up u 72 (f + tp_n (P 1 i)) (u 72 (f + tp_n (P 2 i)) + u 72 (f + tp_n (P 3 i)))
  else if P 0 i = 3 then tc_up u 75 (2 * c + b) (u 72 (f + tp_n (P 1 i))) else u
theorem sd_do_o {P : tp_P} {i f b c q : Nat} {u : tc_S} (h : q ≠ 72) (h2 : q ≠ 75) : sd_do P i f b c u q = u q := by
  unfold sd_do
  split
  · exact tc_up_ne h
  · split
    · exact tc_up_ne h
    · split
      · exact tc_up_ne h
      · split
        · exact tc_up_ne h2
        · rfl
set_option maxRecDepth 100000 in
set_option maxHeartbeats 4000000 in
theorem c_D_does_0 (l : Launch) (G : tc_G) (u : tc_S) {i c0 : Nat} (hi : i < 16) (hl : tp_line (pm u 0) i) (hc : u 56 24 = nI c0) (h3 : (pm u 0) 0 i = 3 → c0 < 200) : tc_C tcx G l yD_does wD_does r0D_does 0 0 [.ref (tc_ad G 56), .int (nI i), .int 0] u (tc_Ki (tp_b ((pm u 0) 0 i = 4 ∧ u 72 (0 + tp_n ((pm u 0) 1 i)) = 0)) (sd_do (pm u 0) i 0 0 c0 u)) := by
  refine tw_ofV (own := "TracedCodeModel") [some (.ref (tc_ad G 56)), some (.int (nI i)), some (.int 0), none] (by decide +kernel) rfl (Nat.le_of_ble_eq_true rfl) (by rfl) (fun p e s m args below meth c => ?_)
  have i32 : tc_ix (nI i) 32 (i) := ix32 hi
  have e0 : u 57 (i) = (pm u 0) 0 i := by rw [pm_of (by decide), Nat.zero_add]
  have e1 : u 58 (i) = (pm u 0) 1 i := by rw [pm_of (by decide), Nat.zero_add]
  have e2 : u 59 (i) = (pm u 0) 2 i := by rw [pm_of (by decide), Nat.zero_add]
  have e3 : u 60 (i) = (pm u 0) 3 i := by rw [pm_of (by decide), Nat.zero_add]
  have r1 : ¬ (pm u 0) 0 i = -1 → tc_ix (0 + (pm u 0) 1 i) 12 (0 + tp_n ((pm u 0) 1 i)) := fun h => by
    obtain ⟨a, ha, ea⟩ := hl.2.1 h
    rw [ea, show tp_n (nI a) = a from nI_clamp (by omega), show (0 : Int32) = nI 0 from rfl, nI_add]; exact tc_ixN (by omega) (by decide)
  have r2 : (pm u 0) 0 i = 1 ∨ (pm u 0) 0 i = 2 ∨ (pm u 0) 0 i = 5 → tc_ix (0 + (pm u 0) 2 i) 12 (0 + tp_n ((pm u 0) 2 i)) := fun h => by
    obtain ⟨a, ha, ea⟩ := hl.2.2.1 h
    rw [ea, show tp_n (nI a) = a from nI_clamp (by omega), show (0 : Int32) = nI 0 from rfl, nI_add]; exact tc_ixN (by omega) (by decide)
  have r3 : (pm u 0) 0 i = 2 → tc_ix (0 + (pm u 0) 3 i) 12 (0 + tp_n ((pm u 0) 3 i)) := fun h => by
    obtain ⟨a, ha, ea⟩ := hl.2.2.2.2.1 h
    rw [ea, show tp_n (nI a) = a from nI_clamp (by omega), show (0 : Int32) = nI 0 from rfl, nI_add]; exact tc_ixN (by omega) (by decide)
  have sw : ∀ k0, k0 = (pm u 0) 0 i → tc_V tcx G p l e r0D_does s m args below meth c bD_does 4 tw "TracedCodeModel" (some .boolean) [] (MQ below (tc_Qc tcx G (tc_Ki (tp_b ((pm u 0) 0 i = 4 ∧ u 72 (0 + tp_n ((pm u 0) 1 i)) = 0)) (sd_do (pm u 0) i 0 0 c0 u)) s.heap.size) args s 0 0 (tc_A tcx G s.heap.size)) 0 0 u 15 [some (.ref (tc_ad G 56)), some (.int (nI i)), some (.int 0), some (.int (0 + (pm u 0) 1 i))] [.int k0] := by
    intro k0 hk0
    rcases hl.1 with h | h | h | h | h | h | h
    · skip
      rw [h] at hk0
      subst hk0
      refine tv_tableOut (pc := 15) 162 dD_does_15 (by decide) (by decide) ?_
      refine tv_iconst (v := 0) (pc := 162) dD_does_162 (by decide) ?_
      exact tv_zret (pc := 163) dD_does_163 rfl (Nat.le_refl _) (Nat.le_refl _) (by rfl) ⟨by rw [tp_b_f (fun z => absurd (h.symm.trans z.1) (by decide))], by unfold sd_do; simp [h]⟩
    · skip
      have x1 := r1 (by rw [h]; decide)
      rw [h] at hk0
      subst hk0
      refine tv_tableIn (pc := 15) (off := 33) 48 dD_does_15 (by decide) (by decide) (by decide) (by decide) ?_
      refine tv_aload_n (pc := 48) dD_does_48 (by rfl) ?_
      refine tv_getR (pc := 49) 21 tb_56 (by rfl) uwD_ (by decide) wm_683 (by rfl) dD_does_49 ?_
      refine tv_iload_n (pc := 52) dD_does_52 (by rfl) ?_
      refine tv_aload_n (pc := 53) dD_does_53 (by rfl) ?_
      refine tv_getR (pc := 54) 4 tb_56 (by rfl) uwD_ (by decide) wm_666 (by rfl) dD_does_54 ?_
      refine tv_iload_n (pc := 57) dD_does_57 (by rfl) ?_
      refine tv_iald (pc := 58) tb_59 (by assumption) dD_does_58 ?_
      rw [e2]
      refine tv_iast (pc := 59) tb_72 x1 dD_does_59 ?_
      refine tv_iconst (v := 0) (pc := 60) dD_does_60 (by decide) ?_
      exact tv_zret (pc := 61) dD_does_61 rfl (Nat.le_refl _) (Nat.le_refl _) (by rfl) ⟨by rw [tp_b_f (fun z => absurd (h.symm.trans z.1) (by decide))], by unfold sd_do; simp [h]⟩
    · skip
      have x1 := r1 (by rw [h]; decide)
      have x2 := r2 (by rw [h]; decide)
      rw [h] at hk0
      subst hk0
      refine tv_tableIn (pc := 15) (off := 47) 62 dD_does_15 (by decide) (by decide) (by decide) (by decide) ?_
      refine tv_aload_n (pc := 62) dD_does_62 (by rfl) ?_
      refine tv_getR (pc := 63) 21 tb_56 (by rfl) uwD_ (by decide) wm_683 (by rfl) dD_does_63 ?_
      refine tv_iload_n (pc := 66) dD_does_66 (by rfl) ?_
      refine tv_aload_n (pc := 67) dD_does_67 (by rfl) ?_
      refine tv_getR (pc := 68) 21 tb_56 (by rfl) uwD_ (by decide) wm_683 (by rfl) dD_does_68 ?_
      refine tv_iload_n (pc := 71) dD_does_71 (by rfl) ?_
      refine tv_aload_n (pc := 72) dD_does_72 (by rfl) ?_
      refine tv_getR (pc := 73) 4 tb_56 (by rfl) uwD_ (by decide) wm_666 (by rfl) dD_does_73 ?_
      refine tv_iload_n (pc := 76) dD_does_76 (by rfl) ?_
      refine tv_iald (pc := 77) tb_59 (by assumption) dD_does_77 ?_
      rw [e2]
      refine tv_iadd (pc := 78) dD_does_78 ?_
      refine tv_iald (pc := 79) tb_72 (by assumption) dD_does_79 ?_
      refine tv_iast (pc := 80) tb_72 x1 dD_does_80 ?_
      refine tv_iconst (v := 0) (pc := 81) dD_does_81 (by decide) ?_
      exact tv_zret (pc := 82) dD_does_82 rfl (Nat.le_refl _) (Nat.le_refl _) (by rfl) ⟨by rw [tp_b_f (fun z => absurd (h.symm.trans z.1) (by decide))], by unfold sd_do; simp [h]⟩
    · skip
      have x1 := r1 (by rw [h]; decide)
      have x2 := r2 (by rw [h]; decide)
      have x3 := r3 h
      rw [h] at hk0
      subst hk0
      refine tv_tableIn (pc := 15) (off := 68) 83 dD_does_15 (by decide) (by decide) (by decide) (by decide) ?_
      refine tv_aload_n (pc := 83) dD_does_83 (by rfl) ?_
      refine tv_getR (pc := 84) 21 tb_56 (by rfl) uwD_ (by decide) wm_683 (by rfl) dD_does_84 ?_
      refine tv_iload_n (pc := 87) dD_does_87 (by rfl) ?_
      refine tv_aload_n (pc := 88) dD_does_88 (by rfl) ?_
      refine tv_getR (pc := 89) 21 tb_56 (by rfl) uwD_ (by decide) wm_683 (by rfl) dD_does_89 ?_
      refine tv_iload_n (pc := 92) dD_does_92 (by rfl) ?_
      refine tv_aload_n (pc := 93) dD_does_93 (by rfl) ?_
      refine tv_getR (pc := 94) 4 tb_56 (by rfl) uwD_ (by decide) wm_666 (by rfl) dD_does_94 ?_
      refine tv_iload_n (pc := 97) dD_does_97 (by rfl) ?_
      refine tv_iald (pc := 98) tb_59 (by assumption) dD_does_98 ?_
      rw [e2]
      refine tv_iadd (pc := 99) dD_does_99 ?_
      refine tv_iald (pc := 100) tb_72 (by assumption) dD_does_100 ?_
      refine tv_aload_n (pc := 101) dD_does_101 (by rfl) ?_
      refine tv_getR (pc := 102) 21 tb_56 (by rfl) uwD_ (by decide) wm_683 (by rfl) dD_does_102 ?_
      refine tv_iload_n (pc := 105) dD_does_105 (by rfl) ?_
      refine tv_aload_n (pc := 106) dD_does_106 (by rfl) ?_
      refine tv_getR (pc := 107) 5 tb_56 (by rfl) uwD_ (by decide) wm_667 (by rfl) dD_does_107 ?_
      refine tv_iload_n (pc := 110) dD_does_110 (by rfl) ?_
      refine tv_iald (pc := 111) tb_60 (by assumption) dD_does_111 ?_
      rw [e3]
      refine tv_iadd (pc := 112) dD_does_112 ?_
      refine tv_iald (pc := 113) tb_72 (by assumption) dD_does_113 ?_
      refine tv_iadd (pc := 114) dD_does_114 ?_
      refine tv_iast (pc := 115) tb_72 x1 dD_does_115 ?_
      refine tv_iconst (v := 0) (pc := 116) dD_does_116 (by decide) ?_
      exact tv_zret (pc := 117) dD_does_117 rfl (Nat.le_refl _) (Nat.le_refl _) (by rfl) ⟨by rw [tp_b_f (fun z => absurd (h.symm.trans z.1) (by decide))], by unfold sd_do; simp [h]⟩
    · skip
      have x1 := r1 (by rw [h]; decide)
      have c200 := h3 h
      have i400 : tc_ix (2 * nI c0 + 0) 400 (2 * c0 + 0) := by
        have h2 : (2 : Int32) * nI c0 = nI (2 * c0) := by
          rw [show (2 : Int32) = nI 2 from rfl]
          exact (by decide +kernel : ∀ i : Fin 200, nI 2 * nI i.1 = nI (2 * i.1)) ⟨c0, c200⟩
        rw [h2, show (0 : Int32) = nI 0 from rfl, nI_add]
        exact tc_ixN (by omega) (by decide)
      rw [h] at hk0
      subst hk0
      refine tv_tableIn (pc := 15) (off := 103) 118 dD_does_15 (by decide) (by decide) (by decide) (by decide) ?_
      refine tv_aload_n (pc := 118) dD_does_118 (by rfl) ?_
      refine tv_getR (pc := 119) 25 tb_56 (by rfl) uwD_ (by decide) wm_687 (by rfl) dD_does_119 ?_
      refine tv_iconst (v := 2) (pc := 122) dD_does_122 (by decide) ?_
      refine tv_aload_n (pc := 123) dD_does_123 (by rfl) ?_
      refine tv_getI (pc := 124) 24 tb_56 (by rfl) uwD_ (by decide) wm_686 (by rfl) dD_does_124 ?_
      rw [hc]
      refine tv_imul (pc := 127) dD_does_127 ?_
      refine tv_iload_n (pc := 128) dD_does_128 (by rfl) ?_
      refine tv_if_le (pc := 129) 136 dD_does_129 (by decide) (fun _ => ?_) (fun h => absurd (by decide) h)
      refine tv_iconst (v := 0) (pc := 136) dD_does_136 (by decide) ?_
      refine tv_iadd (pc := 137) dD_does_137 ?_
      refine tv_aload_n (pc := 138) dD_does_138 (by rfl) ?_
      refine tv_getR (pc := 139) 21 tb_56 (by rfl) uwD_ (by decide) wm_683 (by rfl) dD_does_139 ?_
      refine tv_iload_n (pc := 142) dD_does_142 (by rfl) ?_
      refine tv_iald (pc := 143) tb_72 x1 dD_does_143 ?_
      refine tv_iast (pc := 144) tb_75 i400 dD_does_144 ?_
      refine tv_iconst (v := 0) (pc := 145) dD_does_145 (by decide) ?_
      exact tv_zret (pc := 146) dD_does_146 rfl (Nat.le_refl _) (Nat.le_refl _) (by rfl) ⟨by rw [tp_b_f (fun z => absurd (h.symm.trans z.1) (by decide))], by unfold sd_do; simp [h]⟩
    · skip
      have x1 := r1 (by rw [h]; decide)
      rw [h] at hk0
      subst hk0
      refine tv_tableIn (pc := 15) (off := 132) 147 dD_does_15 (by decide) (by decide) (by decide) (by decide) ?_
      refine tv_aload_n (pc := 147) dD_does_147 (by rfl) ?_
      refine tv_getR (pc := 148) 21 tb_56 (by rfl) uwD_ (by decide) wm_683 (by rfl) dD_does_148 ?_
      refine tv_iload_n (pc := 151) dD_does_151 (by rfl) ?_
      refine tv_iald (pc := 152) tb_72 x1 dD_does_152 ?_
      refine tv_if_ne (pc := 153) 160 dD_does_153 (by decide) (fun h153 => ?_) (fun h153 => ?_)
      · skip
        refine tv_iconst (v := 0) (pc := 160) dD_does_160 (by decide) ?_
        exact tv_zret (pc := 161) dD_does_161 rfl (Nat.le_refl _) (Nat.le_refl _) (by rfl) (by first | (have hz : u 72 (0 + tp_n ((pm u 0) 1 i)) = 0 := (by assumption); exact ⟨by rw [tp_b_t ⟨h, hz⟩], by unfold sd_do; simp [h]⟩) | (have hz : ¬ u 72 (0 + tp_n ((pm u 0) 1 i)) = 0 := (by assumption); exact ⟨by rw [tp_b_f (fun z => hz z.2)], by unfold sd_do; simp [h]⟩))
      · skip
        refine tv_iconst (v := 1) (pc := 156) dD_does_156 (by decide) ?_
        refine tv_goto (pc := 157) 161 dD_does_157 (by decide) ?_
        exact tv_zret (pc := 161) dD_does_161 rfl (Nat.le_refl _) (Nat.le_refl _) (by rfl) (by first | (have hz : u 72 (0 + tp_n ((pm u 0) 1 i)) = 0 := (by assumption); exact ⟨by rw [tp_b_t ⟨h, hz⟩], by unfold sd_do; simp [h]⟩) | (have hz : ¬ u 72 (0 + tp_n ((pm u 0) 1 i)) = 0 := (by assumption); exact ⟨by rw [tp_b_f (fun z => hz z.2)], by unfold sd_do; simp [h]⟩))
    · skip
      rw [h] at hk0
      subst hk0
      refine tv_tableOut (pc := 15) 162 dD_does_15 (by decide) (by decide) ?_
      refine tv_iconst (v := 0) (pc := 162) dD_does_162 (by decide) ?_
      exact tv_zret (pc := 163) dD_does_163 rfl (Nat.le_refl _) (Nat.le_refl _) (by rfl) ⟨by rw [tp_b_f (fun z => absurd (h.symm.trans z.1) (by decide))], by unfold sd_do; simp [h]⟩
  refine tv_iload_n (pc := 0) dD_does_0 (by rfl) ?_
  refine tv_aload_n (pc := 1) dD_does_1 (by rfl) ?_
  refine tv_getR (pc := 2) 3 tb_56 (by rfl) uwD_ (by decide) wm_665 (by rfl) dD_does_2 ?_
  refine tv_iload_n (pc := 5) dD_does_5 (by rfl) ?_
  refine tv_iald (pc := 6) tb_58 (by assumption) dD_does_6 ?_
  rw [e1]
  refine tv_iadd (pc := 7) dD_does_7 ?_
  refine tv_istore3 (pc := 8) dD_does_8 (by rfl) ?_
  refine tv_aload_n (pc := 9) dD_does_9 (by rfl) ?_
  refine tv_getR (pc := 10) 2 tb_56 (by rfl) uwD_ (by decide) wm_664 (by rfl) dD_does_10 ?_
  refine tv_iload_n (pc := 13) dD_does_13 (by rfl) ?_
  refine tv_iald (pc := 14) tb_57 (by assumption) dD_does_14 ?_
  exact sw _ e0
set_option maxRecDepth 100000 in
set_option maxHeartbeats 4000000 in
theorem c_D_does_1 (l : Launch) (G : tc_G) (u : tc_S) {i c0 : Nat} (hi : i < 16) (hl : tp_line (pm u 16) i) (hc : u 56 24 = nI c0) (h3 : (pm u 16) 0 i = 3 → c0 < 200) : tc_C tcx G l yD_does wD_does r0D_does 0 0 [.ref (tc_ad G 56), .int (16 + nI i), .int 6] u (tc_Ki (tp_b ((pm u 16) 0 i = 4 ∧ u 72 (6 + tp_n ((pm u 16) 1 i)) = 0)) (sd_do (pm u 16) i 6 1 c0 u)) := by
  refine tw_ofV (own := "TracedCodeModel") [some (.ref (tc_ad G 56)), some (.int (16 + nI i)), some (.int 6), none] (by decide +kernel) rfl (Nat.le_of_ble_eq_true rfl) (by rfl) (fun p e s m args below meth c => ?_)
  have i32 : tc_ix (16 + nI i) 32 (16 + i) := ix16 hi
  have e0 : u 57 (16 + i) = (pm u 16) 0 i := by rw [pm_of (by decide)]
  have e1 : u 58 (16 + i) = (pm u 16) 1 i := by rw [pm_of (by decide)]
  have e2 : u 59 (16 + i) = (pm u 16) 2 i := by rw [pm_of (by decide)]
  have e3 : u 60 (16 + i) = (pm u 16) 3 i := by rw [pm_of (by decide)]
  have r1 : ¬ (pm u 16) 0 i = -1 → tc_ix (6 + (pm u 16) 1 i) 12 (6 + tp_n ((pm u 16) 1 i)) := fun h => by
    obtain ⟨a, ha, ea⟩ := hl.2.1 h
    rw [ea, show tp_n (nI a) = a from nI_clamp (by omega), show (6 : Int32) = nI 6 from rfl, nI_add]; exact tc_ixN (by omega) (by decide)
  have r2 : (pm u 16) 0 i = 1 ∨ (pm u 16) 0 i = 2 ∨ (pm u 16) 0 i = 5 → tc_ix (6 + (pm u 16) 2 i) 12 (6 + tp_n ((pm u 16) 2 i)) := fun h => by
    obtain ⟨a, ha, ea⟩ := hl.2.2.1 h
    rw [ea, show tp_n (nI a) = a from nI_clamp (by omega), show (6 : Int32) = nI 6 from rfl, nI_add]; exact tc_ixN (by omega) (by decide)
  have r3 : (pm u 16) 0 i = 2 → tc_ix (6 + (pm u 16) 3 i) 12 (6 + tp_n ((pm u 16) 3 i)) := fun h => by
    obtain ⟨a, ha, ea⟩ := hl.2.2.2.2.1 h
    rw [ea, show tp_n (nI a) = a from nI_clamp (by omega), show (6 : Int32) = nI 6 from rfl, nI_add]; exact tc_ixN (by omega) (by decide)
  have sw : ∀ k0, k0 = (pm u 16) 0 i → tc_V tcx G p l e r0D_does s m args below meth c bD_does 4 tw "TracedCodeModel" (some .boolean) [] (MQ below (tc_Qc tcx G (tc_Ki (tp_b ((pm u 16) 0 i = 4 ∧ u 72 (6 + tp_n ((pm u 16) 1 i)) = 0)) (sd_do (pm u 16) i 6 1 c0 u)) s.heap.size) args s 0 0 (tc_A tcx G s.heap.size)) 0 0 u 15 [some (.ref (tc_ad G 56)), some (.int (16 + nI i)), some (.int 6), some (.int (6 + (pm u 16) 1 i))] [.int k0] := by
    intro k0 hk0
    rcases hl.1 with h | h | h | h | h | h | h
    · skip
      rw [h] at hk0
      subst hk0
      refine tv_tableOut (pc := 15) 162 dD_does_15 (by decide) (by decide) ?_
      refine tv_iconst (v := 0) (pc := 162) dD_does_162 (by decide) ?_
      exact tv_zret (pc := 163) dD_does_163 rfl (Nat.le_refl _) (Nat.le_refl _) (by rfl) ⟨by rw [tp_b_f (fun z => absurd (h.symm.trans z.1) (by decide))], by unfold sd_do; simp [h]⟩
    · skip
      have x1 := r1 (by rw [h]; decide)
      rw [h] at hk0
      subst hk0
      refine tv_tableIn (pc := 15) (off := 33) 48 dD_does_15 (by decide) (by decide) (by decide) (by decide) ?_
      refine tv_aload_n (pc := 48) dD_does_48 (by rfl) ?_
      refine tv_getR (pc := 49) 21 tb_56 (by rfl) uwD_ (by decide) wm_683 (by rfl) dD_does_49 ?_
      refine tv_iload_n (pc := 52) dD_does_52 (by rfl) ?_
      refine tv_aload_n (pc := 53) dD_does_53 (by rfl) ?_
      refine tv_getR (pc := 54) 4 tb_56 (by rfl) uwD_ (by decide) wm_666 (by rfl) dD_does_54 ?_
      refine tv_iload_n (pc := 57) dD_does_57 (by rfl) ?_
      refine tv_iald (pc := 58) tb_59 (by assumption) dD_does_58 ?_
      rw [e2]
      refine tv_iast (pc := 59) tb_72 x1 dD_does_59 ?_
      refine tv_iconst (v := 0) (pc := 60) dD_does_60 (by decide) ?_
      exact tv_zret (pc := 61) dD_does_61 rfl (Nat.le_refl _) (Nat.le_refl _) (by rfl) ⟨by rw [tp_b_f (fun z => absurd (h.symm.trans z.1) (by decide))], by unfold sd_do; simp [h]⟩
    · skip
      have x1 := r1 (by rw [h]; decide)
      have x2 := r2 (by rw [h]; decide)
      rw [h] at hk0
      subst hk0
      refine tv_tableIn (pc := 15) (off := 47) 62 dD_does_15 (by decide) (by decide) (by decide) (by decide) ?_
      refine tv_aload_n (pc := 62) dD_does_62 (by rfl) ?_
      refine tv_getR (pc := 63) 21 tb_56 (by rfl) uwD_ (by decide) wm_683 (by rfl) dD_does_63 ?_
      refine tv_iload_n (pc := 66) dD_does_66 (by rfl) ?_
      refine tv_aload_n (pc := 67) dD_does_67 (by rfl) ?_
      refine tv_getR (pc := 68) 21 tb_56 (by rfl) uwD_ (by decide) wm_683 (by rfl) dD_does_68 ?_
      refine tv_iload_n (pc := 71) dD_does_71 (by rfl) ?_
      refine tv_aload_n (pc := 72) dD_does_72 (by rfl) ?_
      refine tv_getR (pc := 73) 4 tb_56 (by rfl) uwD_ (by decide) wm_666 (by rfl) dD_does_73 ?_
      refine tv_iload_n (pc := 76) dD_does_76 (by rfl) ?_
      refine tv_iald (pc := 77) tb_59 (by assumption) dD_does_77 ?_
      rw [e2]
      refine tv_iadd (pc := 78) dD_does_78 ?_
      refine tv_iald (pc := 79) tb_72 (by assumption) dD_does_79 ?_
      refine tv_iast (pc := 80) tb_72 x1 dD_does_80 ?_
      refine tv_iconst (v := 0) (pc := 81) dD_does_81 (by decide) ?_
      exact tv_zret (pc := 82) dD_does_82 rfl (Nat.le_refl _) (Nat.le_refl _) (by rfl) ⟨by rw [tp_b_f (fun z => absurd (h.symm.trans z.1) (by decide))], by unfold sd_do; simp [h]⟩
    · skip
      have x1 := r1 (by rw [h]; decide)
      have x2 := r2 (by rw [h]; decide)
      have x3 := r3 h
      rw [h] at hk0
      subst hk0
      refine tv_tableIn (pc := 15) (off := 68) 83 dD_does_15 (by decide) (by decide) (by decide) (by decide) ?_
      refine tv_aload_n (pc := 83) dD_does_83 (by rfl) ?_
      refine tv_getR (pc := 84) 21 tb_56 (by rfl) uwD_ (by decide) wm_683 (by rfl) dD_does_84 ?_
      refine tv_iload_n (pc := 87) dD_does_87 (by rfl) ?_
      refine tv_aload_n (pc := 88) dD_does_88 (by rfl) ?_
      refine tv_getR (pc := 89) 21 tb_56 (by rfl) uwD_ (by decide) wm_683 (by rfl) dD_does_89 ?_
      refine tv_iload_n (pc := 92) dD_does_92 (by rfl) ?_
      refine tv_aload_n (pc := 93) dD_does_93 (by rfl) ?_
      refine tv_getR (pc := 94) 4 tb_56 (by rfl) uwD_ (by decide) wm_666 (by rfl) dD_does_94 ?_
      refine tv_iload_n (pc := 97) dD_does_97 (by rfl) ?_
      refine tv_iald (pc := 98) tb_59 (by assumption) dD_does_98 ?_
      rw [e2]
      refine tv_iadd (pc := 99) dD_does_99 ?_
      refine tv_iald (pc := 100) tb_72 (by assumption) dD_does_100 ?_
      refine tv_aload_n (pc := 101) dD_does_101 (by rfl) ?_
      refine tv_getR (pc := 102) 21 tb_56 (by rfl) uwD_ (by decide) wm_683 (by rfl) dD_does_102 ?_
      refine tv_iload_n (pc := 105) dD_does_105 (by rfl) ?_
      refine tv_aload_n (pc := 106) dD_does_106 (by rfl) ?_
      refine tv_getR (pc := 107) 5 tb_56 (by rfl) uwD_ (by decide) wm_667 (by rfl) dD_does_107 ?_
      refine tv_iload_n (pc := 110) dD_does_110 (by rfl) ?_
      refine tv_iald (pc := 111) tb_60 (by assumption) dD_does_111 ?_
      rw [e3]
      refine tv_iadd (pc := 112) dD_does_112 ?_
      refine tv_iald (pc := 113) tb_72 (by assumption) dD_does_113 ?_
      refine tv_iadd (pc := 114) dD_does_114 ?_
      refine tv_iast (pc := 115) tb_72 x1 dD_does_115 ?_
      refine tv_iconst (v := 0) (pc := 116) dD_does_116 (by decide) ?_
      exact tv_zret (pc := 117) dD_does_117 rfl (Nat.le_refl _) (Nat.le_refl _) (by rfl) ⟨by rw [tp_b_f (fun z => absurd (h.symm.trans z.1) (by decide))], by unfold sd_do; simp [h]⟩
    · skip
      have x1 := r1 (by rw [h]; decide)
      have c200 := h3 h
      have i400 : tc_ix (2 * nI c0 + 1) 400 (2 * c0 + 1) := by
        have h2 : (2 : Int32) * nI c0 = nI (2 * c0) := by
          rw [show (2 : Int32) = nI 2 from rfl]
          exact (by decide +kernel : ∀ i : Fin 200, nI 2 * nI i.1 = nI (2 * i.1)) ⟨c0, c200⟩
        rw [h2, show (1 : Int32) = nI 1 from rfl, nI_add]
        exact tc_ixN (by omega) (by decide)
      rw [h] at hk0
      subst hk0
      refine tv_tableIn (pc := 15) (off := 103) 118 dD_does_15 (by decide) (by decide) (by decide) (by decide) ?_
      refine tv_aload_n (pc := 118) dD_does_118 (by rfl) ?_
      refine tv_getR (pc := 119) 25 tb_56 (by rfl) uwD_ (by decide) wm_687 (by rfl) dD_does_119 ?_
      refine tv_iconst (v := 2) (pc := 122) dD_does_122 (by decide) ?_
      refine tv_aload_n (pc := 123) dD_does_123 (by rfl) ?_
      refine tv_getI (pc := 124) 24 tb_56 (by rfl) uwD_ (by decide) wm_686 (by rfl) dD_does_124 ?_
      rw [hc]
      refine tv_imul (pc := 127) dD_does_127 ?_
      refine tv_iload_n (pc := 128) dD_does_128 (by rfl) ?_
      refine tv_if_le (pc := 129) 136 dD_does_129 (by decide) (fun h => absurd h (by decide)) (fun _ => ?_)
      refine tv_iconst (v := 1) (pc := 132) dD_does_132 (by decide) ?_
      refine tv_goto (pc := 133) 137 dD_does_133 (by decide) ?_
      refine tv_iadd (pc := 137) dD_does_137 ?_
      refine tv_aload_n (pc := 138) dD_does_138 (by rfl) ?_
      refine tv_getR (pc := 139) 21 tb_56 (by rfl) uwD_ (by decide) wm_683 (by rfl) dD_does_139 ?_
      refine tv_iload_n (pc := 142) dD_does_142 (by rfl) ?_
      refine tv_iald (pc := 143) tb_72 x1 dD_does_143 ?_
      refine tv_iast (pc := 144) tb_75 i400 dD_does_144 ?_
      refine tv_iconst (v := 0) (pc := 145) dD_does_145 (by decide) ?_
      exact tv_zret (pc := 146) dD_does_146 rfl (Nat.le_refl _) (Nat.le_refl _) (by rfl) ⟨by rw [tp_b_f (fun z => absurd (h.symm.trans z.1) (by decide))], by unfold sd_do; simp [h]⟩
    · skip
      have x1 := r1 (by rw [h]; decide)
      rw [h] at hk0
      subst hk0
      refine tv_tableIn (pc := 15) (off := 132) 147 dD_does_15 (by decide) (by decide) (by decide) (by decide) ?_
      refine tv_aload_n (pc := 147) dD_does_147 (by rfl) ?_
      refine tv_getR (pc := 148) 21 tb_56 (by rfl) uwD_ (by decide) wm_683 (by rfl) dD_does_148 ?_
      refine tv_iload_n (pc := 151) dD_does_151 (by rfl) ?_
      refine tv_iald (pc := 152) tb_72 x1 dD_does_152 ?_
      refine tv_if_ne (pc := 153) 160 dD_does_153 (by decide) (fun h153 => ?_) (fun h153 => ?_)
      · skip
        refine tv_iconst (v := 0) (pc := 160) dD_does_160 (by decide) ?_
        exact tv_zret (pc := 161) dD_does_161 rfl (Nat.le_refl _) (Nat.le_refl _) (by rfl) (by first | (have hz : u 72 (6 + tp_n ((pm u 16) 1 i)) = 0 := (by assumption); exact ⟨by rw [tp_b_t ⟨h, hz⟩], by unfold sd_do; simp [h]⟩) | (have hz : ¬ u 72 (6 + tp_n ((pm u 16) 1 i)) = 0 := (by assumption); exact ⟨by rw [tp_b_f (fun z => hz z.2)], by unfold sd_do; simp [h]⟩))
      · skip
        refine tv_iconst (v := 1) (pc := 156) dD_does_156 (by decide) ?_
        refine tv_goto (pc := 157) 161 dD_does_157 (by decide) ?_
        exact tv_zret (pc := 161) dD_does_161 rfl (Nat.le_refl _) (Nat.le_refl _) (by rfl) (by first | (have hz : u 72 (6 + tp_n ((pm u 16) 1 i)) = 0 := (by assumption); exact ⟨by rw [tp_b_t ⟨h, hz⟩], by unfold sd_do; simp [h]⟩) | (have hz : ¬ u 72 (6 + tp_n ((pm u 16) 1 i)) = 0 := (by assumption); exact ⟨by rw [tp_b_f (fun z => hz z.2)], by unfold sd_do; simp [h]⟩))
    · skip
      rw [h] at hk0
      subst hk0
      refine tv_tableOut (pc := 15) 162 dD_does_15 (by decide) (by decide) ?_
      refine tv_iconst (v := 0) (pc := 162) dD_does_162 (by decide) ?_
      exact tv_zret (pc := 163) dD_does_163 rfl (Nat.le_refl _) (Nat.le_refl _) (by rfl) ⟨by rw [tp_b_f (fun z => absurd (h.symm.trans z.1) (by decide))], by unfold sd_do; simp [h]⟩
  refine tv_iload_n (pc := 0) dD_does_0 (by rfl) ?_
  refine tv_aload_n (pc := 1) dD_does_1 (by rfl) ?_
  refine tv_getR (pc := 2) 3 tb_56 (by rfl) uwD_ (by decide) wm_665 (by rfl) dD_does_2 ?_
  refine tv_iload_n (pc := 5) dD_does_5 (by rfl) ?_
  refine tv_iald (pc := 6) tb_58 (by assumption) dD_does_6 ?_
  rw [e1]
  refine tv_iadd (pc := 7) dD_does_7 ?_
  refine tv_istore3 (pc := 8) dD_does_8 (by rfl) ?_
  refine tv_aload_n (pc := 9) dD_does_9 (by rfl) ?_
  refine tv_getR (pc := 10) 2 tb_56 (by rfl) uwD_ (by decide) wm_664 (by rfl) dD_does_10 ?_
  refine tv_iload_n (pc := 13) dD_does_13 (by rfl) ?_
  refine tv_iald (pc := 14) tb_57 (by assumption) dD_does_14 ?_
  exact sw _ e0
set_option maxRecDepth 100000 in
set_option maxHeartbeats 4000000 in
theorem c_D_stepM (l : Launch) (G : tc_G) (u : tc_S) (hm : u 56 6 = 0) : tc_C tcx G l yD_step wD_step r0D_step 0 0 [.ref (tc_ad G 56)] u (tc_Ki 0 (tc_up u 56 0 1)) := by
  refine tw_ofV (own := "TracedCodeModel") [some (.ref (tc_ad G 56)), none, none, none] (by decide +kernel) rfl (Nat.le_of_ble_eq_true rfl) (by rfl) (fun p e s m args below meth c => ?_)
  refine tv_aload_n (pc := 0) dD_step_0 (by rfl) ?_
  refine tv_aload_n (pc := 1) dD_step_1 (by rfl) ?_
  refine tv_getI (pc := 2) 6 tb_56 (by rfl) uwD_ (by decide) wm_668 (by rfl) dD_step_2 ?_
  refine tv_if_eq (pc := 5) 12 dD_step_5 (by decide) (fun _ => ?_) (fun h => absurd hm h)
  refine tv_iconst (v := 1) (pc := 12) dD_step_12 (by decide) ?_
  refine tv_putI (ty := .int) (pc := 13) 0 tyD_ tb_56 (by rfl) uwD_ (by decide) wm_662 okD_ nmD_ (by rfl) (by decide +kernel) (by rfl) (by rfl) (by rfl) dD_step_13 ?_
  refine tv_aload_n (pc := 16) dD_step_16 (by rfl) ?_
  refine tv_getI (pc := 17) 0 tb_56 (by rfl) uwD_ (by decide) wm_662 (by rfl) dD_step_17 ?_
  refine tv_if_le (pc := 20) 25 dD_step_20 (by decide) (fun h => absurd h (by rw [tc_up_self]; decide)) (fun _ => ?_)
  refine tv_iconst (v := 0) (pc := 23) dD_step_23 (by decide) ?_
  exact tv_iret (pc := 24) dD_step_24 rfl (Nat.le_refl _) (Nat.le_refl _) ⟨rfl, rfl⟩
/-- a step of the model -/
def se_1 (t : Nat) (u : tc_S) : tc_S := tc_up (tc_up u 56 0 0) 56 20 (nI (t + 1))
def se_3 (P P1 : tp_P) (q t c : Nat) (u : tc_S) : tc_S := sd_do P1 q 6 1 c (sd_do P q 0 0 c (se_1 t u))
def se_4 (P P1 : tp_P) (q t c : Nat) (u : tc_S) : tc_S := if P 0 q = 3 then tc_up (se_3 P P1 q t c u) 56 24 (nI (c + 1)) else se_3 P P1 q t c u
def se_5 (P P1 : tp_P) (q t c : Nat) (u : tc_S) : tc_S := if P 0 q = 5 then tc_up (tc_up (se_4 P P1 q t c u) 73 (tp_n (P 1 q)) (se_4 P P1 q t c u 72 (tp_n (P 2 q)))) 74 (tp_n (P 1 q)) 1 else se_4 P P1 q t c u
def se_nx (n : Nat) (P : tp_P) (q t : Nat) (u : tc_S) : Nat := if P 0 q = 4 ∧ u 72 (tp_n (P 1 q)) = 0 then tp_tg n P q else q + 1
def se_6 (n : Nat) (P P1 : tp_P) (q t c : Nat) (u : tc_S) : tc_S := tc_up (se_5 P P1 q t c u) 56 19 (nI (se_nx n P q t u))
theorem pm_o {u v : tc_S} (h : ∀ q, 57 ≤ q → q ≤ 60 → v q = u q) (o : Nat) : pm v o = pm u o := by
  funext j i
  unfold pm
  by_cases hj : j < 4
  · rw [if_pos hj, if_pos hj, h (57 + j) (by omega) (by omega)]
  · rw [if_neg hj, if_neg hj]
set_option maxRecDepth 100000 in
set_option maxHeartbeats 4000000 in
theorem c_D_step0 (l : Launch) (G : tc_G) (u : tc_S) (hm : u 56 6 = 1) {n q t : Nat} (hs : u 56 1 = nI n) (hn : n ≤ 16) (hat : u 56 19 = nI q) (hst : u 56 20 = nI t) (h : q = n ∨ t = 200) : tc_C tcx G l yD_step wD_step r0D_step 0 0 [.ref (tc_ad G 56)] u (tc_Ki (-1) (tc_up u 56 0 0)) := by
  refine tw_ofV (own := "TracedCodeModel") [some (.ref (tc_ad G 56)), none, none, none] (by decide +kernel) rfl (Nat.le_of_ble_eq_true rfl) (by rfl) (fun p e s m args below meth c => ?_)
  have e19 : (tc_up u 56 0 0) 56 19 = nI q := by rw [tc_up_at (by decide)]; exact hat
  have e1 : (tc_up u 56 0 0) 56 1 = nI n := by rw [tc_up_at (by decide)]; exact hs
  have e20 : (tc_up u 56 0 0) 56 20 = nI t := by rw [tc_up_at (by decide)]; exact hst
  refine tv_aload_n (pc := 0) dD_step_0 (by rfl) ?_
  refine tv_aload_n (pc := 1) dD_step_1 (by rfl) ?_
  refine tv_getI (pc := 2) 6 tb_56 (by rfl) uwD_ (by decide) wm_668 (by rfl) dD_step_2 ?_
  refine tv_if_eq (pc := 5) 12 dD_step_5 (by decide) (fun h => absurd h (by rw [hm]; decide)) (fun _ => ?_)
  refine tv_iconst (v := 0) (pc := 8) dD_step_8 (by decide) ?_
  refine tv_goto (pc := 9) 13 dD_step_9 (by decide) ?_
  refine tv_putI (ty := .int) (pc := 13) 0 tyD_ tb_56 (by rfl) uwD_ (by decide) wm_662 okD_ nmD_ (by rfl) (by decide +kernel) (by rfl) (by rfl) (by rfl) dD_step_13 ?_
  refine tv_aload_n (pc := 16) dD_step_16 (by rfl) ?_
  refine tv_getI (pc := 17) 0 tb_56 (by rfl) uwD_ (by decide) wm_662 (by rfl) dD_step_17 ?_
  refine tv_if_le (pc := 20) 25 dD_step_20 (by decide) (fun _ => ?_) (fun h => absurd (by rw [tc_up_self]; decide) h)
  refine tv_aload_n (pc := 25) dD_step_25 (by rfl) ?_
  refine tv_getI (pc := 26) 19 tb_56 (by rfl) uwD_ (by decide) wm_681 (by rfl) dD_step_26 ?_
  refine tv_aload_n (pc := 29) dD_step_29 (by rfl) ?_
  refine tv_getI (pc := 30) 1 tb_56 (by rfl) uwD_ (by decide) wm_663 (by rfl) dD_step_30 ?_
  refine tv_icmp_eq (pc := 33) 46 dD_step_33 (by decide) (fun h33 => ?_) (fun h33 => ?_)
  · skip
    refine tv_iconst (v := (-1)) (pc := 46) dD_step_46 (by decide) ?_
    exact tv_iret (pc := 47) dD_step_47 rfl (Nat.le_refl _) (Nat.le_refl _) ⟨rfl, rfl⟩
  · skip
    refine tv_aload_n (pc := 36) dD_step_36 (by rfl) ?_
    refine tv_getI (pc := 37) 20 tb_56 (by rfl) uwD_ (by decide) wm_682 (by rfl) dD_step_37 ?_
    refine tv_sipush (v := 200) (pc := 40) dD_step_40 (by decide) ?_
    refine tv_icmp_ne (pc := 43) 48 dD_step_43 (by decide) (fun h43 => ?_) (fun h43 => ?_)
    · skip
      exfalso
      have h1 : ¬ (tc_up u 56 0 0) 56 19 = (tc_up u 56 0 0) 56 1 := (by assumption)
      have h2 : ¬ (tc_up u 56 0 0) 56 20 = 200 := (by assumption)
      rw [e19, e1] at h1
      rw [e20] at h2
      rcases h with z | z
      · exact h1 (by rw [z])
      · exact h2 (by rw [z]; rfl)
    · skip
      refine tv_iconst (v := (-1)) (pc := 46) dD_step_46 (by decide) ?_
      exact tv_iret (pc := 47) dD_step_47 rfl (Nat.le_refl _) (Nat.le_refl _) ⟨rfl, rfl⟩
set_option maxRecDepth 100000 in
set_option maxHeartbeats 4000000 in
theorem c_D_step (l : Launch) (G : tc_G) (u : tc_S) (hm : u 56 6 = 1) {n q t c0 : Nat} (hs : u 56 1 = nI n) (hn : n ≤ 16) (hat : u 56 19 = nI q) (hqn : q < n) (hst : u 56 20 = nI t) (ht2 : t < 200) (hc : u 56 24 = nI c0) (hc2 : c0 < 200) (hl : tp_line (pm u 0) q) (hl1 : tp_line (pm u 16) q) : tc_C tcx G l yD_step wD_step r0D_step 0 0 [.ref (tc_ad G 56)] u (tc_Ki (nI (se_nx n (pm u 0) q t u)) (se_6 n (pm u 0) (pm u 16) q t c0 u)) := by
  refine tw_ofV (own := "TracedCodeModel") [some (.ref (tc_ad G 56)), none, none, none] (by decide +kernel) rfl (Nat.le_of_ble_eq_true rfl) (by rfl) (fun p e s m args below meth c => ?_)
  have hq16 : q < 16 := by omega
  have i32 : tc_ix (nI q) 32 q := ix32 hq16
  have e19 : (tc_up u 56 0 0) 56 19 = nI q := by rw [tc_up_at (by decide)]; exact hat
  have e1 : (tc_up u 56 0 0) 56 1 = nI n := by rw [tc_up_at (by decide)]; exact hs
  have e20 : (tc_up u 56 0 0) 56 20 = nI t := by rw [tc_up_at (by decide)]; exact hst
  have o1 : ∀ q', q' ≠ 56 → se_1 t u q' = u q' := fun q' h => by unfold se_1; rw [tc_up_ne h, tc_up_ne h]
  have o1b : ∀ j, j ≠ 0 → j ≠ 20 → se_1 t u 56 j = u 56 j := fun j h h2 => by unfold se_1; rw [tc_up_at h2, tc_up_at h]
  have p1 : ∀ o, pm (se_1 t u) o = pm u o := pm_o (fun q' h1 h2 => o1 q' (by omega))
  have p2 : ∀ o, pm (sd_do (pm u 0) q 0 0 c0 (se_1 t u)) o = pm u o := fun o => (pm_o (fun q' h1 h2 => sd_do_o (by omega) (by omega)) o).trans (p1 o)
  have d1 := c_D_does_0 l G (se_1 t u) (i := q) (c0 := c0) hq16 (by rw [p1]; exact hl) (by rw [o1b 24 (by decide) (by decide)]; exact hc) (fun _ => hc2)
  rw [p1, o1 72 (by decide), Nat.zero_add] at d1
  have d2 := c_D_does_1 l G (sd_do (pm u 0) q 0 0 c0 (se_1 t u)) (i := q) (c0 := c0) hq16 (by rw [p2]; exact hl1) (by rw [sd_do_o (by decide) (by decide), o1b 24 (by decide) (by decide)]; exact hc) (fun _ => hc2)
  rw [p2] at d2
  have o3 : ∀ q', q' ≠ 56 → q' ≠ 72 → q' ≠ 75 → (se_3 (pm u 0) (pm u 16) q t c0 u) q' = u q' := fun q' h h2 h3 => by unfold se_3; rw [sd_do_o h2 h3, sd_do_o h2 h3]; exact o1 q' h
  have o3b : ∀ j, j ≠ 0 → j ≠ 20 → (se_3 (pm u 0) (pm u 16) q t c0 u) 56 j = u 56 j := fun j h h2 => by unfold se_3; rw [sd_do_o (by decide) (by decide), sd_do_o (by decide) (by decide)]; exact o1b j h h2
  have o4 : ∀ q', q' ≠ 56 → q' ≠ 72 → q' ≠ 75 → (se_4 (pm u 0) (pm u 16) q t c0 u) q' = u q' := fun q' h h2 h3 => by
    unfold se_4; split
    · rw [tc_up_ne h]; exact o3 q' h h2 h3
    · exact o3 q' h h2 h3
  have o4b : ∀ j, j ≠ 0 → j ≠ 20 → j ≠ 24 → (se_4 (pm u 0) (pm u 16) q t c0 u) 56 j = u 56 j := fun j h h2 h3 => by
    unfold se_4; split
    · rw [tc_up_at h3]; exact o3b j h h2
    · exact o3b j h h2
  have o5 : ∀ q', q' ≠ 56 → q' ≠ 72 → q' ≠ 75 → q' ≠ 73 → q' ≠ 74 → (se_5 (pm u 0) (pm u 16) q t c0 u) q' = u q' := fun q' h h2 h3 h4 h5 => by
    unfold se_5; split
    · rw [tc_up_ne h5, tc_up_ne h4]; exact o4 q' h h2 h3
    · exact o4 q' h h2 h3
  have o5b : ∀ j, j ≠ 0 → j ≠ 20 → j ≠ 24 → (se_5 (pm u 0) (pm u 16) q t c0 u) 56 j = u 56 j := fun j h h2 h3 => by
    unfold se_5; split
    · rw [tc_up_ne (by decide), tc_up_ne (by decide)]; exact o4b j h h2 h3
    · exact o4b j h h2 h3
  have k57 : u 57 q = pm u 0 0 q := by rw [pm_of (by decide), Nat.zero_add]
  have k58 : u 58 q = pm u 0 1 q := by rw [pm_of (by decide), Nat.zero_add]
  have k59 : u 59 q = pm u 0 2 q := by rw [pm_of (by decide), Nat.zero_add]
  have p5 : ∀ o, pm (se_5 (pm u 0) (pm u 16) q t c0 u) o = pm u o := pm_o (fun q' h1 h2 => o5 q' (by omega) (by omega) (by omega) (by omega) (by omega))
  have tg := c_D_targetOf l G (se_5 (pm u 0) (pm u 16) q t c0 u) (n := n) (i := q) (by rw [o5b 1 (by decide) (by decide) (by decide)]; exact hs) hn hq16 (by rw [p5]; exact hl.2.2.2.1)
  rw [p5] at tg
  have r145 : tc_V tcx G p l e r0D_step s m args below meth c bD_step 4 tw "TracedCodeModel" (some .int) [] (MQ below (tc_Qc tcx G (tc_Ki (nI (se_nx n (pm u 0) q t u)) (se_6 n (pm u 0) (pm u 16) q t c0 u)) s.heap.size) args s 0 0 (tc_A tcx G s.heap.size)) 0 0 (se_5 (pm u 0) (pm u 16) q t c0 u) 145 [some (.ref (tc_ad G 56)), some (.int (nI q)), some (.int (tp_b ((pm u 0) 0 q = 4 ∧ u 72 (tp_n ((pm u 0) 1 q)) = 0))), some (.int (tp_b ((pm u 16) 0 q = 4 ∧ (sd_do (pm u 0) q 0 0 c0 (se_1 t u)) 72 (6 + tp_n ((pm u 16) 1 q)) = 0)))] [] := by
    refine tv_aload_n (pc := 145) dD_step_145 (by rfl) ?_
    refine tv_iload_n (pc := 146) dD_step_146 (by rfl) ?_
    refine tv_if_eq (pc := 147) 158 dD_step_147 (by decide) (fun h147 => ?_) (fun h147 => ?_)
    · skip
      refine tv_iload_n (pc := 158) dD_step_158 (by rfl) ?_
      refine tv_iconst (v := 1) (pc := 159) dD_step_159 (by decide) ?_
      refine tv_iadd (pc := 160) dD_step_160 ?_
      first
      | (have hz : tp_b ((pm u 0) 0 q = 4 ∧ u 72 (tp_n ((pm u 0) 1 q)) = 0) = 0 := (by assumption)
         have en : se_nx n (pm u 0) q t u = q + 1 := by unfold se_nx; rw [if_neg (tp_b_q hz)]
         rw [nI_1, ← en])
      | (have hz : ¬ tp_b ((pm u 0) 0 q = 4 ∧ u 72 (tp_n ((pm u 0) 1 q)) = 0) = 0 := (by assumption)
         have en : se_nx n (pm u 0) q t u = tp_tg n (pm u 0) q := by unfold se_nx; rw [if_pos (tp_b_p hz)]
         rw [← en])
      refine tv_putI (ty := .int) (pc := 161) 19 tyD_ tb_56 (by rfl) uwD_ (by decide) wm_681 okD_ nmD_ (by rfl) (by decide +kernel) (by rfl) (by rfl) (by rfl) dD_step_161 ?_
      refine tv_aload_n (pc := 164) dD_step_164 (by rfl) ?_
      refine tv_getI (pc := 165) 19 tb_56 (by rfl) uwD_ (by decide) wm_681 (by rfl) dD_step_165 ?_
      exact tv_iret (pc := 168) dD_step_168 rfl (Nat.le_refl _) (Nat.le_refl _) ⟨by rw [tc_up_self], rfl⟩
    · skip
      refine tv_aload_n (pc := 150) dD_step_150 (by rfl) ?_
      refine tv_iload_n (pc := 151) dD_step_151 (by rfl) ?_
      refine tv_callVi (pc := 152) [_] tb_56 (by rfl) tg (kVD_targetOf wm_799 ⟨by decide, by decide⟩) (by rfl) (Nat.le_of_ble_eq_true rfl) dD_step_152 ⟨by decide, by decide⟩ ?_
      refine tv_goto (pc := 155) 161 dD_step_155 (by decide) ?_
      first
      | (have hz : tp_b ((pm u 0) 0 q = 4 ∧ u 72 (tp_n ((pm u 0) 1 q)) = 0) = 0 := (by assumption)
         have en : se_nx n (pm u 0) q t u = q + 1 := by unfold se_nx; rw [if_neg (tp_b_q hz)]
         rw [nI_1, ← en])
      | (have hz : ¬ tp_b ((pm u 0) 0 q = 4 ∧ u 72 (tp_n ((pm u 0) 1 q)) = 0) = 0 := (by assumption)
         have en : se_nx n (pm u 0) q t u = tp_tg n (pm u 0) q := by unfold se_nx; rw [if_pos (tp_b_p hz)]
         rw [← en])
      refine tv_putI (ty := .int) (pc := 161) 19 tyD_ tb_56 (by rfl) uwD_ (by decide) wm_681 okD_ nmD_ (by rfl) (by decide +kernel) (by rfl) (by rfl) (by rfl) dD_step_161 ?_
      refine tv_aload_n (pc := 164) dD_step_164 (by rfl) ?_
      refine tv_getI (pc := 165) 19 tb_56 (by rfl) uwD_ (by decide) wm_681 (by rfl) dD_step_165 ?_
      exact tv_iret (pc := 168) dD_step_168 rfl (Nat.le_refl _) (Nat.le_refl _) ⟨by rw [tc_up_self], rfl⟩
  have r101 : tc_V tcx G p l e r0D_step s m args below meth c bD_step 4 tw "TracedCodeModel" (some .int) [] (MQ below (tc_Qc tcx G (tc_Ki (nI (se_nx n (pm u 0) q t u)) (se_6 n (pm u 0) (pm u 16) q t c0 u)) s.heap.size) args s 0 0 (tc_A tcx G s.heap.size)) 0 0 (se_4 (pm u 0) (pm u 16) q t c0 u) 101 [some (.ref (tc_ad G 56)), some (.int (nI q)), some (.int (tp_b ((pm u 0) 0 q = 4 ∧ u 72 (tp_n ((pm u 0) 1 q)) = 0))), some (.int (tp_b ((pm u 16) 0 q = 4 ∧ (sd_do (pm u 0) q 0 0 c0 (se_1 t u)) 72 (6 + tp_n ((pm u 16) 1 q)) = 0)))] [] := by
    refine tv_aload_n (pc := 101) dD_step_101 (by rfl) ?_
    refine tv_getR (pc := 102) 2 tb_56 (by rfl) uwD_ (by decide) wm_664 (by rfl) dD_step_102 ?_
    refine tv_iload_n (pc := 105) dD_step_105 (by rfl) ?_
    refine tv_iald (pc := 106) tb_57 (by assumption) dD_step_106 ?_
    rw [o4 57 (by decide) (by decide) (by decide), k57]
    refine tv_iconst (v := 5) (pc := 107) dD_step_107 (by decide) ?_
    refine tv_icmp_ne (pc := 108) 145 dD_step_108 (by decide) (fun h108 => ?_) (fun h108 => ?_)
    · skip
      first
      | (have h5 : ¬ (pm u 0) 0 q = 5 := (by assumption)
         rw [show (se_5 (pm u 0) (pm u 16) q t c0 u) = (se_4 (pm u 0) (pm u 16) q t c0 u) from by unfold se_5; rw [if_neg h5]] at r145
         exact r145)
      | (have h5 : (pm u 0) 0 q = 5 := (by assumption)
         rw [show (se_5 (pm u 0) (pm u 16) q t c0 u) = tc_up (tc_up (se_4 (pm u 0) (pm u 16) q t c0 u) 73 a ((se_4 (pm u 0) (pm u 16) q t c0 u) 72 b2)) 74 a 1 from by unfold se_5; rw [if_pos h5, n1, n2]] at r145
         exact r145)
    · skip
      have h5 : (pm u 0) 0 q = 5 := (by assumption)
      obtain ⟨a, ha, ea⟩ := hl.2.2.2.2.2 h5
      obtain ⟨b2, hb2, eb⟩ := hl.2.2.1 (Or.inr (Or.inr h5))
      have n1 : tp_n ((pm u 0) 1 q) = a := by rw [ea]; exact nI_clamp (by omega)
      have n2 : tp_n ((pm u 0) 2 q) = b2 := by rw [eb]; exact nI_clamp (by omega)
      have x1 : tc_ix ((pm u 0) 1 q) 3 a := by rw [ea]; exact tc_ixN ha (by decide)
      have x2 : tc_ix ((pm u 0) 2 q) 12 b2 := by rw [eb]; exact tc_ixN (by omega) (by decide)
      refine tv_aload_n (pc := 111) dD_step_111 (by rfl) ?_
      refine tv_getR (pc := 112) 22 tb_56 (by rfl) uwD_ (by decide) wm_684 (by rfl) dD_step_112 ?_
      refine tv_aload_n (pc := 115) dD_step_115 (by rfl) ?_
      refine tv_getR (pc := 116) 3 tb_56 (by rfl) uwD_ (by decide) wm_665 (by rfl) dD_step_116 ?_
      refine tv_iload_n (pc := 119) dD_step_119 (by rfl) ?_
      refine tv_iald (pc := 120) tb_58 (by assumption) dD_step_120 ?_
      rw [o4 58 (by decide) (by decide) (by decide), k58]
      refine tv_aload_n (pc := 121) dD_step_121 (by rfl) ?_
      refine tv_getR (pc := 122) 21 tb_56 (by rfl) uwD_ (by decide) wm_683 (by rfl) dD_step_122 ?_
      refine tv_aload_n (pc := 125) dD_step_125 (by rfl) ?_
      refine tv_getR (pc := 126) 4 tb_56 (by rfl) uwD_ (by decide) wm_666 (by rfl) dD_step_126 ?_
      refine tv_iload_n (pc := 129) dD_step_129 (by rfl) ?_
      refine tv_iald (pc := 130) tb_59 (by assumption) dD_step_130 ?_
      rw [o4 59 (by decide) (by decide) (by decide), k59]
      refine tv_iald (pc := 131) tb_72 (by assumption) dD_step_131 ?_
      refine tv_iast (pc := 132) tb_73 (by assumption) dD_step_132 ?_
      refine tv_aload_n (pc := 133) dD_step_133 (by rfl) ?_
      refine tv_getR (pc := 134) 23 tb_56 (by rfl) uwD_ (by decide) wm_685 (by rfl) dD_step_134 ?_
      refine tv_aload_n (pc := 137) dD_step_137 (by rfl) ?_
      refine tv_getR (pc := 138) 3 tb_56 (by rfl) uwD_ (by decide) wm_665 (by rfl) dD_step_138 ?_
      refine tv_iload_n (pc := 141) dD_step_141 (by rfl) ?_
      refine tv_iald (pc := 142) tb_58 (by assumption) dD_step_142 ?_
      rw [tc_up_ne (by decide), o4 58 (by decide) (by decide) (by decide), k58]
      refine tv_iconst (v := 1) (pc := 143) dD_step_143 (by decide) ?_
      refine tv_zast (pc := 144) tb_74 (by assumption) (by rfl) dD_step_144 ?_
      first
      | (have h5 : ¬ (pm u 0) 0 q = 5 := (by assumption)
         rw [show (se_5 (pm u 0) (pm u 16) q t c0 u) = (se_4 (pm u 0) (pm u 16) q t c0 u) from by unfold se_5; rw [if_neg h5]] at r145
         exact r145)
      | (have h5 : (pm u 0) 0 q = 5 := (by assumption)
         rw [show (se_5 (pm u 0) (pm u 16) q t c0 u) = tc_up (tc_up (se_4 (pm u 0) (pm u 16) q t c0 u) 73 a ((se_4 (pm u 0) (pm u 16) q t c0 u) 72 b2)) 74 a 1 from by unfold se_5; rw [if_pos h5, n1, n2]] at r145
         exact r145)
  refine tv_aload_n (pc := 0) dD_step_0 (by rfl) ?_
  refine tv_aload_n (pc := 1) dD_step_1 (by rfl) ?_
  refine tv_getI (pc := 2) 6 tb_56 (by rfl) uwD_ (by decide) wm_668 (by rfl) dD_step_2 ?_
  refine tv_if_eq (pc := 5) 12 dD_step_5 (by decide) (fun h => absurd h (by rw [hm]; decide)) (fun _ => ?_)
  refine tv_iconst (v := 0) (pc := 8) dD_step_8 (by decide) ?_
  refine tv_goto (pc := 9) 13 dD_step_9 (by decide) ?_
  refine tv_putI (ty := .int) (pc := 13) 0 tyD_ tb_56 (by rfl) uwD_ (by decide) wm_662 okD_ nmD_ (by rfl) (by decide +kernel) (by rfl) (by rfl) (by rfl) dD_step_13 ?_
  refine tv_aload_n (pc := 16) dD_step_16 (by rfl) ?_
  refine tv_getI (pc := 17) 0 tb_56 (by rfl) uwD_ (by decide) wm_662 (by rfl) dD_step_17 ?_
  refine tv_if_le (pc := 20) 25 dD_step_20 (by decide) (fun _ => ?_) (fun h => absurd (by rw [tc_up_self]; decide) h)
  refine tv_aload_n (pc := 25) dD_step_25 (by rfl) ?_
  refine tv_getI (pc := 26) 19 tb_56 (by rfl) uwD_ (by decide) wm_681 (by rfl) dD_step_26 ?_
  refine tv_aload_n (pc := 29) dD_step_29 (by rfl) ?_
  refine tv_getI (pc := 30) 1 tb_56 (by rfl) uwD_ (by decide) wm_663 (by rfl) dD_step_30 ?_
  refine tv_icmp_eq (pc := 33) 46 dD_step_33 (by decide) (fun h => absurd h (by rw [e19, e1]; exact fun z => absurd ((nI_eq (by omega) (by omega)).mp z) (by omega))) (fun _ => ?_)
  refine tv_aload_n (pc := 36) dD_step_36 (by rfl) ?_
  refine tv_getI (pc := 37) 20 tb_56 (by rfl) uwD_ (by decide) wm_682 (by rfl) dD_step_37 ?_
  refine tv_sipush (v := 200) (pc := 40) dD_step_40 (by decide) ?_
  refine tv_icmp_ne (pc := 43) 48 dD_step_43 (by decide) (fun _ => ?_) (fun h => absurd h (by rw [e20]; exact fun z => absurd ((nI_eq (b := 200) (by omega) (by decide)).mp z) (by omega)))
  refine tv_aload_n (pc := 48) dD_step_48 (by rfl) ?_
  refine tv_dup (pc := 49) dD_step_49 (by rfl) ?_
  refine tv_getI (pc := 50) 20 tb_56 (by rfl) uwD_ (by decide) wm_682 (by rfl) dD_step_50 ?_
  rw [e20]
  refine tv_iconst (v := 1) (pc := 53) dD_step_53 (by decide) ?_
  refine tv_iadd (pc := 54) dD_step_54 ?_
  rw [nI_1]
  refine tv_putI (ty := .int) (pc := 55) 20 tyD_ tb_56 (by rfl) uwD_ (by decide) wm_682 okD_ nmD_ (by rfl) (by decide +kernel) (by rfl) (by rfl) (by rfl) dD_step_55 ?_
  refine tv_aload_n (pc := 58) dD_step_58 (by rfl) ?_
  refine tv_getI (pc := 59) 19 tb_56 (by rfl) uwD_ (by decide) wm_681 (by rfl) dD_step_59 ?_
  rw [tc_up_at (by decide), e19]
  refine tv_istore1 (pc := 62) dD_step_62 (by rfl) ?_
  refine tv_aload_n (pc := 63) dD_step_63 (by rfl) ?_
  refine tv_iload_n (pc := 64) dD_step_64 (by rfl) ?_
  refine tv_iconst (v := 0) (pc := 65) dD_step_65 (by decide) ?_
  refine tv_callVi (pc := 66) [_, _] tb_56 (by rfl) d1 (kVD_does wm_885 ⟨by decide, by decide⟩) (by rfl) (Nat.le_of_ble_eq_true rfl) dD_step_66 ⟨by decide, by decide⟩ ?_
  refine tv_istore2 (pc := 69) dD_step_69 (by rfl) ?_
  refine tv_aload_n (pc := 70) dD_step_70 (by rfl) ?_
  refine tv_bipush (v := 16) (pc := 71) dD_step_71 (by decide) ?_
  refine tv_iload_n (pc := 73) dD_step_73 (by rfl) ?_
  refine tv_iadd (pc := 74) dD_step_74 ?_
  refine tv_bipush (v := 6) (pc := 75) dD_step_75 (by decide) ?_
  refine tv_callVi (pc := 77) [_, _] tb_56 (by rfl) d2 (kVD_does wm_885 ⟨by decide, by decide⟩) (by rfl) (Nat.le_of_ble_eq_true rfl) dD_step_77 ⟨by decide, by decide⟩ ?_
  refine tv_istore3 (pc := 80) dD_step_80 (by rfl) ?_
  refine tv_aload_n (pc := 81) dD_step_81 (by rfl) ?_
  refine tv_getR (pc := 82) 2 tb_56 (by rfl) uwD_ (by decide) wm_664 (by rfl) dD_step_82 ?_
  refine tv_iload_n (pc := 85) dD_step_85 (by rfl) ?_
  refine tv_iald (pc := 86) tb_57 (by assumption) dD_step_86 ?_
  rw [show (sd_do (pm u 16) q 6 1 c0 (sd_do (pm u 0) q 0 0 c0 (se_1 t u))) 57 q = pm u 0 0 q from by rw [sd_do_o (by decide) (by decide), sd_do_o (by decide) (by decide), o1 57 (by decide)]; exact k57]
  refine tv_iconst (v := 3) (pc := 87) dD_step_87 (by decide) ?_
  refine tv_icmp_ne (pc := 88) 101 dD_step_88 (by decide) (fun h88 => ?_) (fun h88 => ?_)
  · skip
    first
    | (have h3 : (pm u 0) 0 q = 3 := (by assumption)
       rw [show (se_4 (pm u 0) (pm u 16) q t c0 u) = tc_up (se_3 (pm u 0) (pm u 16) q t c0 u) 56 24 (nI (c0 + 1)) from by unfold se_4; rw [if_pos h3]] at r101
       exact r101)
    | (have h3 : ¬ (pm u 0) 0 q = 3 := (by assumption)
       rw [show (se_4 (pm u 0) (pm u 16) q t c0 u) = (se_3 (pm u 0) (pm u 16) q t c0 u) from by unfold se_4; rw [if_neg h3]] at r101
       exact r101)
  · skip
    refine tv_aload_n (pc := 91) dD_step_91 (by rfl) ?_
    refine tv_dup (pc := 92) dD_step_92 (by rfl) ?_
    refine tv_getI (pc := 93) 24 tb_56 (by rfl) uwD_ (by decide) wm_686 (by rfl) dD_step_93 ?_
    rw [show (sd_do (pm u 16) q 6 1 c0 (sd_do (pm u 0) q 0 0 c0 (se_1 t u))) 56 24 = nI c0 from (o3b 24 (by decide) (by decide)).trans hc]
    refine tv_iconst (v := 1) (pc := 96) dD_step_96 (by decide) ?_
    refine tv_iadd (pc := 97) dD_step_97 ?_
    rw [nI_1]
    refine tv_putI (ty := .int) (pc := 98) 24 tyD_ tb_56 (by rfl) uwD_ (by decide) wm_686 okD_ nmD_ (by rfl) (by decide +kernel) (by rfl) (by rfl) (by rfl) dD_step_98 ?_
    first
    | (have h3 : (pm u 0) 0 q = 3 := (by assumption)
       rw [show (se_4 (pm u 0) (pm u 16) q t c0 u) = tc_up (se_3 (pm u 0) (pm u 16) q t c0 u) 56 24 (nI (c0 + 1)) from by unfold se_4; rw [if_pos h3]] at r101
       exact r101)
    | (have h3 : ¬ (pm u 0) 0 q = 3 := (by assumption)
       rw [show (se_4 (pm u 0) (pm u 16) q t c0 u) = (se_3 (pm u 0) (pm u 16) q t c0 u) from by unfold se_4; rw [if_neg h3]] at r101
       exact r101)
