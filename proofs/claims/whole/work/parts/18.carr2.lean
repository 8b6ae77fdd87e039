/-- the mark of the register that a line of the program writes, if its line is left in the short one -/
def sk_it (P P1 : tp_P) (i : Nat) : Int32 := if P1 0 i = -1 then 0 else tp_sh (P 1 i)
def sk_m (P P1 : tp_P) (i : Nat) (f : Nat → Int32) (x : Nat) : Int32 :=
  if P 0 i = 0 ∧ x = tp_n (P 1 i) then sk_it P P1 i ||| 64
  else if P 0 i = 1 ∧ x = tp_n (P 1 i) then f (tp_n (P 2 i)) ||| sk_it P P1 i
  else if P 0 i = 2 ∧ x = tp_n (P 1 i) then sk_it P P1 i
  else if P 0 i = 5 ∧ x = 6 + tp_n (P 1 i) then f (tp_n (P 2 i)) else f x
def sk_c (P : tp_P) (i : Nat) (g : Nat → Int32) (x : Nat) : Int32 :=
  if P 0 i = 0 ∧ x = tp_n (P 1 i) then P 2 i
  else if P 0 i = 1 ∧ x = tp_n (P 1 i) then g (tp_n (P 2 i))
  else if P 0 i = 5 ∧ x = 6 + tp_n (P 1 i) then g (tp_n (P 2 i)) else g x
def sk_rs (u : tc_S) (f g : Nat → Int32) (N : Nat) : tc_S := tc_row (tc_row u 45 f N) 46 g N
theorem sk_rs_s {u : tc_S} {f g : Nat → Int32} {i : Nat} : tc_up (tc_up (sk_rs u f g i) 45 i (f i)) 46 i (g i) = sk_rs u f g (i + 1) := by
  unfold sk_rs
  rw [tc_row_upc (by decide), tc_row_s, tc_row_s]
theorem sk_rs_1 {u : tc_S} {f g : Nat → Int32} {N a : Nat} {x : Int32} (h : a < N) : tc_up (sk_rs u f g N) 45 a x = sk_rs u (fun j => if j = a then x else f j) g N := by
  unfold sk_rs
  rw [tc_row_upc (by decide), tc_row_up h]
theorem sk_rs_2 {u : tc_S} {f g : Nat → Int32} {N a : Nat} {x : Int32} (h : a < N) : tc_up (sk_rs u f g N) 46 a x = sk_rs u f (fun j => if j = a then x else g j) N := by
  unfold sk_rs
  rw [tc_row_up h]
theorem sk_rs_o {u : tc_S} {f g : Nat → Int32} {N q : Nat} (h : q < 45) : sk_rs u f g N q = u q := by
  unfold sk_rs
  rw [tc_row_ne (by omega), tc_row_ne (by omega)]
theorem sk_rs_45 {u : tc_S} {f g : Nat → Int32} {N j : Nat} (h : j < N) : sk_rs u f g N 45 j = f j := by
  unfold sk_rs
  rw [tc_row_ne (by decide), tc_row_in h]
theorem sk_rs_46 {u : tc_S} {f g : Nat → Int32} {N j : Nat} (h : j < N) : sk_rs u f g N 46 j = g j := by
  unfold sk_rs
  rw [tc_row_in h]
theorem sk_rs_c {u : tc_S} {f g f' g' : Nat → Int32} {N : Nat} (h1 : ∀ j, j < N → f j = f' j) (h2 : ∀ j, j < N → g j = g' j) : sk_rs u f g N = sk_rs u f' g' N := by
  unfold sk_rs
  rw [tc_row_congr h1, tc_row_congr h2]
theorem sk_rs_0 {u : tc_S} {f g : Nat → Int32} : sk_rs u f g 0 = u := by unfold sk_rs; rw [tc_row_0, tc_row_0]
theorem sk_it_0 {P P1 : tp_P} {i : Nat} (h : P1 0 i = -1) : sk_it P P1 i = 0 := if_pos h
theorem sk_it_1 {P P1 : tp_P} {i : Nat} (h : ¬ P1 0 i = -1) : sk_it P P1 i = tp_sh (P 1 i) := if_neg h
theorem if10 {x y : Int32} (h : (if x = y then (1 : Int32) else 0) = 0) : ¬ x = y := fun q => absurd ((if_pos q).symm.trans h) (by decide)
theorem if10n {x y : Int32} (h : ¬ (if x = y then (1 : Int32) else 0) = 0) : x = y := Classical.byContradiction fun q => h (if_neg q)
theorem sk_bs_congr {P Q : tp_P} {i : Nat} {x : Int32} (h0 : P 0 i = Q 0 i) (h1 : P 1 i = Q 1 i) (h2 : P 2 i = Q 2 i) : sk_bs P i x = sk_bs Q i x := by
  unfold sk_bs tp_wI
  rw [h0, h1, h2]
def sk_f (u : tc_S) (i r : Nat) : Int32 := sk_bs (pv u 9) i (u (26 + r) i)
def sk_g (u : tc_S) (i r : Nat) : Int32 := u (36 + r) i
/-- following on Carriers -/
def sk_fol (i : Nat) (u : tc_S) : tc_S := sk_rs u (sk_m (pv u 3) (pv u 9) i (sk_f u i)) (sk_c (pv u 3) i (sk_g u i)) 9
set_option maxRecDepth 100000 in
set_option maxHeartbeats 4000000 in
theorem c_K_follow (l : Launch) (G : tc_G) (u : tc_S) {i : Nat} (hi : i < 16) (hl : tp_line (pv u 3) i) (hne : ¬ pv u 3 0 i = -1) : tc_C tcx G l yK_follow wK_follow r0K_follow 0 0 [.ref (tc_ad G 24), .ref (tc_ad G 1), .ref (tc_ad G 7), .int (nI i)] u (tc_Kv (sk_fol i u)) := by
  refine tw_ofV (own := "TracedCode$Carriers") [some (.ref (tc_ad G 24)), some (.ref (tc_ad G 1)), some (.ref (tc_ad G 7)), some (.int (nI i)), none, none, none] (by decide +kernel) rfl (Nat.le_of_ble_eq_true rfl) (by rfl) (fun p e s m args below meth c => ?_)
  have hi16 : tc_ix (nI i) 16 i := tc_ixN hi (by decide)
  have hi17 : tc_ix (nI i) 17 i := tc_ixN (by omega) (by decide)
  have hk : pv u 3 0 i = 0 ∨ pv u 3 0 i = 1 ∨ pv u 3 0 i = 2 ∨ pv u 3 0 i = 3 ∨ pv u 3 0 i = 4 ∨ pv u 3 0 i = 5 := by
    rcases hl.1 with q | q
    · exact absurd q hne
    · exact q
  obtain ⟨a1, ha1, e1⟩ := hl.2.1 hne
  have n1 : tp_n (pv u 3 1 i) = a1 := by rw [e1]; exact nI_clamp (by omega)
  have x1 : tc_ix (pv u 3 1 i) 9 a1 := by rw [e1]; exact tc_ixN (by omega) (by decide)
  have fin : ∀ (z y it : Option Value) (f g : Nat → Int32), (∀ j, j < 9 → f j = sk_m (pv u 3) (pv u 9) i (sk_f u i) j) → (∀ j, j < 9 → g j = sk_c (pv u 3) i (sk_g u i) j) → tc_V tcx G p l e r0K_follow s m args below meth c bK_follow 7 tw "TracedCode$Carriers" none [] (MQ below (tc_Qc tcx G (tc_Kv (sk_fol i u)) s.heap.size) args s 0 0 (tc_A tcx G s.heap.size)) 0 0 (sk_rs u f g 9) 239 [some (.ref (tc_ad G 24)), some (.ref (tc_ad G 1)), some (.ref (tc_ad G 7)), some (.int (nI i)), z, y, it] [] := by
    intro z y it f g h1 h2
    refine tv_vret (pc := 239) dK_follow_239 rfl (Nat.le_refl _) (Nat.le_refl _) ⟨rfl, ?_⟩
    exact sk_rs_c h1 h2
  have sw : tc_V tcx G p l e r0K_follow s m args below meth c bK_follow 7 tw "TracedCode$Carriers" none [] (MQ below (tc_Qc tcx G (tc_Kv (sk_fol i u)) s.heap.size) args s 0 0 (tc_A tcx G s.heap.size)) 0 0 (sk_rs u (sk_f u i) (sk_g u i) 9) 92 [some (.ref (tc_ad G 24)), some (.ref (tc_ad G 1)), some (.ref (tc_ad G 7)), some (.int (nI i)), some (.int (pv u 3 1 i)), some (.int (pv u 3 2 i)), some (.int (sk_it (pv u 3) (pv u 9) i))] [.int (pv u 3 0 i)] := by
    rcases hk with h | h | h | h | h | h
    · rw [h]
      refine tv_tableIn (pc := 92) (off := 40) 132 dK_follow_92 (by decide) (by decide) (by decide) (by decide) ?_
      refine tv_aload_n (pc := 132) dK_follow_132 (by rfl) ?_
      refine tv_getR (pc := 133) 2 tb_24 (by rfl) uwK_ (by decide) wm_82 (by rfl) dK_follow_133 ?_
      refine tv_iload (pc := 136) dK_follow_136 (by rfl) ?_
      refine tv_iload (pc := 138) dK_follow_138 (by rfl) ?_
      refine tv_bipush (v := 64) (pc := 140) dK_follow_140 (by decide) ?_
      refine tv_ior (pc := 142) dK_follow_142 ?_
      refine tv_iast (pc := 143) tb_45 x1 dK_follow_143 ?_
      rw [sk_rs_1 (by omega)]
      refine tv_aload_n (pc := 144) dK_follow_144 (by rfl) ?_
      refine tv_getR (pc := 145) 3 tb_24 (by rfl) uwK_ (by decide) wm_83 (by rfl) dK_follow_145 ?_
      refine tv_iload (pc := 148) dK_follow_148 (by rfl) ?_
      refine tv_iload (pc := 150) dK_follow_150 (by rfl) ?_
      refine tv_iast (pc := 152) tb_46 x1 dK_follow_152 ?_
      refine tv_goto (pc := 153) 239 dK_follow_153 (by decide) ?_
      rw [sk_rs_2 (by omega)]
      refine fin _ _ _ _ _ (fun j hj => ?_) (fun j hj => ?_)
      · unfold sk_m; simp [h, n1]
      · unfold sk_c; simp [h, n1]
    · rw [h]
      refine tv_tableIn (pc := 92) (off := 64) 156 dK_follow_92 (by decide) (by decide) (by decide) (by decide) ?_
      obtain ⟨a2, ha2, e2⟩ := hl.2.2.1 (by rw [h]; decide)
      have n2 : tp_n (pv u 3 2 i) = a2 := by rw [e2]; exact nI_clamp (by omega)
      have x2 : tc_ix (pv u 3 2 i) 9 a2 := by rw [e2]; exact tc_ixN (by omega) (by decide)
      refine tv_aload_n (pc := 156) dK_follow_156 (by rfl) ?_
      refine tv_getR (pc := 157) 2 tb_24 (by rfl) uwK_ (by decide) wm_82 (by rfl) dK_follow_157 ?_
      refine tv_iload (pc := 160) dK_follow_160 (by rfl) ?_
      refine tv_aload_n (pc := 162) dK_follow_162 (by rfl) ?_
      refine tv_getR (pc := 163) 2 tb_24 (by rfl) uwK_ (by decide) wm_82 (by rfl) dK_follow_163 ?_
      refine tv_iload (pc := 166) dK_follow_166 (by rfl) ?_
      refine tv_iald (pc := 168) tb_45 x2 dK_follow_168 ?_
      refine tv_iload (pc := 169) dK_follow_169 (by rfl) ?_
      refine tv_ior (pc := 171) dK_follow_171 ?_
      refine tv_iast (pc := 172) tb_45 x1 dK_follow_172 ?_
      rw [sk_rs_45 (by omega), sk_rs_1 (by omega)]
      refine tv_aload_n (pc := 173) dK_follow_173 (by rfl) ?_
      refine tv_getR (pc := 174) 3 tb_24 (by rfl) uwK_ (by decide) wm_83 (by rfl) dK_follow_174 ?_
      refine tv_iload (pc := 177) dK_follow_177 (by rfl) ?_
      refine tv_aload_n (pc := 179) dK_follow_179 (by rfl) ?_
      refine tv_getR (pc := 180) 3 tb_24 (by rfl) uwK_ (by decide) wm_83 (by rfl) dK_follow_180 ?_
      refine tv_iload (pc := 183) dK_follow_183 (by rfl) ?_
      refine tv_iald (pc := 185) tb_46 x2 dK_follow_185 ?_
      refine tv_iast (pc := 186) tb_46 x1 dK_follow_186 ?_
      refine tv_goto (pc := 187) 239 dK_follow_187 (by decide) ?_
      rw [sk_rs_46 (by omega), sk_rs_2 (by omega)]
      refine fin _ _ _ _ _ (fun j hj => ?_) (fun j hj => ?_)
      · unfold sk_m; simp [h, n1, n2]
      · unfold sk_c; simp [h, n1, n2]
    · rw [h]
      refine tv_tableIn (pc := 92) (off := 98) 190 dK_follow_92 (by decide) (by decide) (by decide) (by decide) ?_
      refine tv_aload_n (pc := 190) dK_follow_190 (by rfl) ?_
      refine tv_getR (pc := 191) 2 tb_24 (by rfl) uwK_ (by decide) wm_82 (by rfl) dK_follow_191 ?_
      refine tv_iload (pc := 194) dK_follow_194 (by rfl) ?_
      refine tv_iload (pc := 196) dK_follow_196 (by rfl) ?_
      refine tv_iast (pc := 198) tb_45 x1 dK_follow_198 ?_
      refine tv_goto (pc := 199) 239 dK_follow_199 (by decide) ?_
      rw [sk_rs_1 (by omega)]
      refine fin _ _ _ _ _ (fun j hj => ?_) (fun j hj => ?_)
      · unfold sk_m; simp [h, n1]
      · unfold sk_c; simp [h]
    · rw [h]
      refine tv_tableIn (pc := 92) (off := 147) 239 dK_follow_92 (by decide) (by decide) (by decide) (by decide) ?_
      refine fin _ _ _ _ _ (fun j hj => ?_) (fun j hj => ?_)
      · unfold sk_m; simp [h]
      · unfold sk_c; simp [h]
    · rw [h]
      refine tv_tableIn (pc := 92) (off := 147) 239 dK_follow_92 (by decide) (by decide) (by decide) (by decide) ?_
      refine fin _ _ _ _ _ (fun j hj => ?_) (fun j hj => ?_)
      · unfold sk_m; simp [h]
      · unfold sk_c; simp [h]
    · rw [h]
      refine tv_tableIn (pc := 92) (off := 110) 202 dK_follow_92 (by decide) (by decide) (by decide) (by decide) ?_
      obtain ⟨a2, ha2, e2⟩ := hl.2.2.1 (by rw [h]; decide)
      have n2 : tp_n (pv u 3 2 i) = a2 := by rw [e2]; exact nI_clamp (by omega)
      have x2 : tc_ix (pv u 3 2 i) 9 a2 := by rw [e2]; exact tc_ixN (by omega) (by decide)
      obtain ⟨a3, ha3, e3⟩ := hl.2.2.2.2.2 h
      have e31 : a3 = a1 := (nI_eq (by omega) (by omega)).mp (e3.symm.trans e1)
      have x3 : tc_ix (6 + pv u 3 1 i) 9 (6 + a1) := by rw [e1, show (6 : Int32) = nI 6 from rfl, nI_add]; exact tc_ixN (by omega) (by decide)
      refine tv_aload_n (pc := 202) dK_follow_202 (by rfl) ?_
      refine tv_getR (pc := 203) 2 tb_24 (by rfl) uwK_ (by decide) wm_82 (by rfl) dK_follow_203 ?_
      refine tv_bipush (v := 6) (pc := 206) dK_follow_206 (by decide) ?_
      refine tv_iload (pc := 208) dK_follow_208 (by rfl) ?_
      refine tv_iadd (pc := 210) dK_follow_210 ?_
      refine tv_aload_n (pc := 211) dK_follow_211 (by rfl) ?_
      refine tv_getR (pc := 212) 2 tb_24 (by rfl) uwK_ (by decide) wm_82 (by rfl) dK_follow_212 ?_
      refine tv_iload (pc := 215) dK_follow_215 (by rfl) ?_
      refine tv_iald (pc := 217) tb_45 x2 dK_follow_217 ?_
      refine tv_iast (pc := 218) tb_45 x3 dK_follow_218 ?_
      rw [sk_rs_45 (by omega), sk_rs_1 (by omega)]
      refine tv_aload_n (pc := 219) dK_follow_219 (by rfl) ?_
      refine tv_getR (pc := 220) 3 tb_24 (by rfl) uwK_ (by decide) wm_83 (by rfl) dK_follow_220 ?_
      refine tv_bipush (v := 6) (pc := 223) dK_follow_223 (by decide) ?_
      refine tv_iload (pc := 225) dK_follow_225 (by rfl) ?_
      refine tv_iadd (pc := 227) dK_follow_227 ?_
      refine tv_aload_n (pc := 228) dK_follow_228 (by rfl) ?_
      refine tv_getR (pc := 229) 3 tb_24 (by rfl) uwK_ (by decide) wm_83 (by rfl) dK_follow_229 ?_
      refine tv_iload (pc := 232) dK_follow_232 (by rfl) ?_
      refine tv_iald (pc := 234) tb_46 x2 dK_follow_234 ?_
      refine tv_iast (pc := 235) tb_46 x3 dK_follow_235 ?_
      refine tv_goto (pc := 236) 239 dK_follow_236 (by decide) ?_
      rw [sk_rs_46 (by omega), sk_rs_2 (by omega)]
      refine fin _ _ _ _ _ (fun j hj => ?_) (fun j hj => ?_)
      · unfold sk_m; simp [h, n1, n2]
      · unfold sk_c; simp [h, n1, n2]
  have loop : ∀ z y : Option Value, tc_V tcx G p l e r0K_follow s m args below meth c bK_follow 7 tw "TracedCode$Carriers" none [] (MQ below (tc_Qc tcx G (tc_Kv (sk_fol i u)) s.heap.size) args s 0 0 (tc_A tcx G s.heap.size)) 0 0 (sk_rs u (sk_f u i) (sk_g u i) 0) 3 [some (.ref (tc_ad G 24)), some (.ref (tc_ad G 1)), some (.ref (tc_ad G 7)), some (.int (nI i)), some (.int (nI 0)), z, y] [] := by
    refine tv_down (P := fun r => ∀ z y : Option Value, tc_V tcx G p l e r0K_follow s m args below meth c bK_follow 7 tw "TracedCode$Carriers" none [] (MQ below (tc_Qc tcx G (tc_Kv (sk_fol i u)) s.heap.size) args s 0 0 (tc_A tcx G s.heap.size)) 0 0 (sk_rs u (sk_f u i) (sk_g u i) r) 3 [some (.ref (tc_ad G 24)), some (.ref (tc_ad G 1)), some (.ref (tc_ad G 7)), some (.int (nI i)), some (.int (nI r)), z, y] []) 9 ?_ ?_
    · intro z y
      refine tv_iload (pc := 3) dK_follow_3 (by rfl) ?_
      refine tv_bipush (v := 9) (pc := 5) dK_follow_5 (by decide) ?_
      refine tv_icmp_ge (pc := 7) 53 dK_follow_7 (by decide) (fun _ => ?_) (fun h => absurd (by decide) h)
      refine tv_aload_n (pc := 53) dK_follow_53 (by rfl) ?_
      refine tv_iload_n (pc := 54) dK_follow_54 (by rfl) ?_
      refine tv_iconst (v := 1) (pc := 55) dK_follow_55 (by decide) ?_
      refine tv_callVi (pc := 56) [_, _] tb_1 (by rfl) (c_C_number l G _ code_1 hi16 (j := 1) ⟨by decide, by decide, by decide⟩) (kVC_number wm_213 ⟨by decide, by decide⟩) (by rfl) (Nat.le_of_ble_eq_true rfl) dK_follow_56 ⟨by decide, by decide⟩ ?_
      refine tv_istore4 (pc := 59) dK_follow_59 (by rfl) ?_
      refine tv_aload_n (pc := 61) dK_follow_61 (by rfl) ?_
      refine tv_iload_n (pc := 62) dK_follow_62 (by rfl) ?_
      refine tv_iconst (v := 2) (pc := 63) dK_follow_63 (by decide) ?_
      refine tv_callVi (pc := 64) [_, _] tb_1 (by rfl) (c_C_number l G _ code_1 hi16 (j := 2) ⟨by decide, by decide, by decide⟩) (kVC_number wm_213 ⟨by decide, by decide⟩) (by rfl) (Nat.le_of_ble_eq_true rfl) dK_follow_64 ⟨by decide, by decide⟩ ?_
      refine tv_istore5 (pc := 67) dK_follow_67 (by rfl) ?_
      refine tv_aload_n (pc := 69) dK_follow_69 (by rfl) ?_
      refine tv_iload_n (pc := 70) dK_follow_70 (by rfl) ?_
      refine tv_callVi (pc := 71) [_] tb_7 (by rfl) (c_C_isEmpty l G _ code_7 hi16) (kVC_isEmpty wm_217 ⟨by decide, by decide⟩) (by rfl) (Nat.le_of_ble_eq_true rfl) dK_follow_71 ⟨by decide, by decide⟩ ?_
      refine tv_if_eq (pc := 74) 81 dK_follow_74 (by decide) (fun h74 => ?_) (fun h74 => ?_)
      · skip
        refine tv_iconst (v := 1) (pc := 81) dK_follow_81 (by decide) ?_
        refine tv_iload (pc := 82) dK_follow_82 (by rfl) ?_
        refine tv_ishl (pc := 84) dK_follow_84 ?_
        refine tv_istore6 (pc := 85) dK_follow_85 (by rfl) ?_
        refine tv_aload_n (pc := 87) dK_follow_87 (by rfl) ?_
        refine tv_iload_n (pc := 88) dK_follow_88 (by rfl) ?_
        refine tv_callVi (pc := 89) [_] tb_1 (by rfl) (c_C_kind l G _ code_1 hi16) (kVC_kind wm_209 ⟨by decide, by decide⟩) (by rfl) (Nat.le_of_ble_eq_true rfl) dK_follow_89 ⟨by decide, by decide⟩ ?_
        have o1 : ∀ q, q < 45 → sk_rs u (sk_f u i) (sk_g u i) 9 q = u q := fun q hq => sk_rs_o hq
        simp only [o1 (3 + 0) (by omega), o1 (3 + 1) (by omega), o1 (3 + 2) (by omega), o1 (9 + 0) (by omega)] at *
        first
        | (have hz : pv u 9 0 i = -1 := if10n (by assumption : ¬ (if u (9 + 0) i = -1 then (1 : Int32) else 0) = 0)
           rw [sk_it_0 hz] at sw
           exact sw)
        | (have hz : ¬ pv u 9 0 i = -1 := if10 (by assumption : (if u (9 + 0) i = -1 then (1 : Int32) else 0) = 0)
           rw [sk_it_1 hz] at sw
           exact sw)
      · skip
        refine tv_iconst (v := 0) (pc := 77) dK_follow_77 (by decide) ?_
        refine tv_goto (pc := 78) 85 dK_follow_78 (by decide) ?_
        refine tv_istore6 (pc := 85) dK_follow_85 (by rfl) ?_
        refine tv_aload_n (pc := 87) dK_follow_87 (by rfl) ?_
        refine tv_iload_n (pc := 88) dK_follow_88 (by rfl) ?_
        refine tv_callVi (pc := 89) [_] tb_1 (by rfl) (c_C_kind l G _ code_1 hi16) (kVC_kind wm_209 ⟨by decide, by decide⟩) (by rfl) (Nat.le_of_ble_eq_true rfl) dK_follow_89 ⟨by decide, by decide⟩ ?_
        have o1 : ∀ q, q < 45 → sk_rs u (sk_f u i) (sk_g u i) 9 q = u q := fun q hq => sk_rs_o hq
        simp only [o1 (3 + 0) (by omega), o1 (3 + 1) (by omega), o1 (3 + 2) (by omega), o1 (9 + 0) (by omega)] at *
        first
        | (have hz : pv u 9 0 i = -1 := if10n (by assumption : ¬ (if u (9 + 0) i = -1 then (1 : Int32) else 0) = 0)
           rw [sk_it_0 hz] at sw
           exact sw)
        | (have hz : ¬ pv u 9 0 i = -1 := if10 (by assumption : (if u (9 + 0) i = -1 then (1 : Int32) else 0) = 0)
           rw [sk_it_1 hz] at sw
           exact sw)
    · intro r hr ih z y
      have hr9 : tc_ix (nI r) 9 r := tc_ixN hr (by decide)
      have o1 : ∀ q, q < 45 → sk_rs u (sk_f u i) (sk_g u i) r q = u q := fun q hq => sk_rs_o hq
      rw [← sk_rs_s, ← nI_1] at ih
      refine tv_iload (pc := 3) dK_follow_3 (by rfl) ?_
      refine tv_bipush (v := 9) (pc := 5) dK_follow_5 (by decide) ?_
      refine tv_icmp_ge (pc := 7) 53 dK_follow_7 (by decide) (fun h => absurd h (nI_lt9 hr)) (fun _ => ?_)
      refine tv_aload_n (pc := 10) dK_follow_10 (by rfl) ?_
      refine tv_getR (pc := 11) 2 tb_24 (by rfl) uwK_ (by decide) wm_82 (by rfl) dK_follow_11 ?_
      refine tv_iload (pc := 14) dK_follow_14 (by rfl) ?_
      refine tv_aload_n (pc := 16) dK_follow_16 (by rfl) ?_
      refine tv_getR (pc := 17) 0 tb_24 (by rfl) uwK_ (by decide) wm_80 (by rfl) dK_follow_17 ?_
      refine tv_iload (pc := 20) dK_follow_20 (by rfl) ?_
      refine tv_aald (pc := 22) tb_25 hr9 dK_follow_22 ?_
      refine tv_iload_n (pc := 23) dK_follow_23 (by rfl) ?_
      refine tv_iald (pc := 24) (rows_26 _ hr9.2.2) hi17 dK_follow_24 ?_
      refine tv_aload_n (pc := 25) dK_follow_25 (by rfl) ?_
      refine tv_iload_n (pc := 26) dK_follow_26 (by rfl) ?_
      refine tv_callSi (pc := 27) [_, _, _] (c_K_behindShortLine l G _ hi) (kSK_behindShortLine wm_202 ⟨by decide, by decide⟩) (by rfl) (Nat.le_of_ble_eq_true rfl) dK_follow_27 ⟨by decide, by decide⟩ ?_
      refine tv_iast (pc := 30) tb_45 hr9 dK_follow_30 ?_
      refine tv_aload_n (pc := 31) dK_follow_31 (by rfl) ?_
      refine tv_getR (pc := 32) 3 tb_24 (by rfl) uwK_ (by decide) wm_83 (by rfl) dK_follow_32 ?_
      refine tv_iload (pc := 35) dK_follow_35 (by rfl) ?_
      refine tv_aload_n (pc := 37) dK_follow_37 (by rfl) ?_
      refine tv_getR (pc := 38) 1 tb_24 (by rfl) uwK_ (by decide) wm_81 (by rfl) dK_follow_38 ?_
      refine tv_iload (pc := 41) dK_follow_41 (by rfl) ?_
      refine tv_aald (pc := 43) tb_35 hr9 dK_follow_43 ?_
      refine tv_iload_n (pc := 44) dK_follow_44 (by rfl) ?_
      refine tv_iald (pc := 45) (rows_36 _ hr9.2.2) hi17 dK_follow_45 ?_
      refine tv_iast (pc := 46) tb_46 hr9 dK_follow_46 ?_
      refine tv_iinc4 (v := 1) (pc := 47) dK_follow_47 (by decide) (by rfl) ?_
      refine tv_goto (pc := 50) 3 dK_follow_50 (by decide) ?_
      have e1 : sk_bs (pv (sk_rs u (sk_f u i) (sk_g u i) r) 9) i (sk_rs u (sk_f u i) (sk_g u i) r (26 + r) i) = sk_f u i r := by
        have ep : ∀ j, j < 4 → pv (sk_rs u (sk_f u i) (sk_g u i) r) 9 j i = pv u 9 j i := fun j hj => by unfold pv; rw [sk_rs_o (q := 9 + j) (by omega)]
        rw [sk_bs_congr (ep 0 (by omega)) (ep 1 (by omega)) (ep 2 (by omega)), sk_rs_o (q := 26 + r) (by omega)]
        rfl
      rw [e1, tc_up_ne (by omega), o1 (36 + r) (by omega)]
      exact ih _ _
  rw [sk_rs_0] at loop
  refine tv_iconst (v := 0) (pc := 0) dK_follow_0 (by decide) ?_
  refine tv_istore4 (pc := 1) dK_follow_1 (by rfl) ?_
  exact loop none none
