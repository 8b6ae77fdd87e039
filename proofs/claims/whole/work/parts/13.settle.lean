theorem tw_kU {R rm : Room} {s : State} {args : Array Value} {own C owner : String} {idx mc ms nL : Nat} {x y : MethodName} {b : ByteArray} {ret : Option FieldType} (n : Nat) (h1 : Cond.sameMethod x.cls owner x.name x.desc ∈ tw) (h2 : Cond.selects C x y ∈ tw) (h3 : Cond.instanceMethod y ∈ tw) (h4 : Cond.initialized y.cls ∈ tw) (h5 : Cond.code y b nL ret ∈ tw) (hz : (⟨owner, x.name, x.desc⟩ : MethodName) ∈ tcx.2.2.2.2.1) (hrc : rm.cells = mc) (hrs : rm.slots = ms) (hd : owner ≠ "java/lang/invoke/MethodHandle" ∧ owner ≠ "java/lang/invoke/VarHandle" ∧ (parseMethodDescriptor x.desc).map (fun d => d.parameters.length) = some n)
    (h : Cond.methodLink own idx x ∈ tw) (hR : rm.frames + 1 ≤ R.frames ∧ 8 + (nL + 11) + rm.locals ≤ R.locals) : (∀ w ∈ tw, w.before args s = true) → tc_N tcx s → va_CU R s args own C owner idx x y b nL ret (Cond.code y b nL ret :: tw) rm mc ms n :=
  fun hts hN => va_cwA n hts (tw_GI (List.forall_mem_append.mpr ⟨List.forall_mem_cons.mpr ⟨h, List.forall_mem_cons.mpr ⟨h1, List.forall_mem_cons.mpr ⟨h2, List.forall_mem_cons.mpr ⟨h3, List.forall_mem_cons.mpr ⟨h4, fun _ q => absurd q List.not_mem_nil⟩⟩⟩⟩⟩, tw_c h5⟩)) rfl hrc hrs (hN.2.1 _ hz) hd hR
/-! what settle does, by what following, putting and narrowing do -/
def sf_1 (fol put : Nat → tc_S → tc_S) : Nat → tc_S → tc_S
  | 0, u => u
  | i + 1, u => put (i + 1) (fol i (sf_1 fol put i u))
def sf_2 (fol nar : Nat → tc_S → tc_S) (nch : Nat → tc_S → Int32) (tg : Nat → tc_S → Nat) : Nat → tc_S × Int32 → tc_S × Int32
  | 0, x => x
  | i + 1, x => (nar (tg i (nar (i + 1) (fol i (sf_2 fol nar nch tg i x).1))) (nar (i + 1) (fol i (sf_2 fol nar nch tg i x).1)), ((sf_2 fol nar nch tg i x).2 ||| nch (i + 1) (fol i (sf_2 fol nar nch tg i x).1)) ||| nch (tg i (nar (i + 1) (fol i (sf_2 fol nar nch tg i x).1))) (nar (i + 1) (fol i (sf_2 fol nar nch tg i x).1)))
def sf_3 (fol nar : Nat → tc_S → tc_S) (nch : Nat → tc_S → Int32) (tg : Nat → tc_S → Nat) (n : Nat) : Nat → tc_S → tc_S
  | 0, u => u
  | f + 1, u => if (sf_2 fol nar nch tg n (u, 0)).2 = 0 then (sf_2 fol nar nch tg n (u, 0)).1 else sf_3 fol nar nch tg n f (sf_2 fol nar nch tg n (u, 0)).1
/-- the cells below 13 (the programs) are as they were -/
def sf_F (u v : tc_S) : Prop := ∀ q, q < 14 → v q = u q
theorem sf_F.tr {u v w : tc_S} (h : sf_F u v) (k : sf_F v w) : sf_F u w := fun q hq => (k q hq).trans (h q hq)
theorem sf_Fpv {u v : tc_S} (h : sf_F u v) {b : Nat} (hb : b + 4 ≤ 14) {j i : Nat} (hj : j < 4) : pv v b j i = pv u b j i := by unfold pv; rw [h (b + j) (by omega)]
theorem sf_Fline {u v : tc_S} (h : sf_F u v) {b : Nat} (hb : b + 4 ≤ 14) {i : Nat} (hl : tp_line (pv u b) i) : tp_line (pv v b) i := by
  unfold tp_line at hl ⊢
  rw [sf_Fpv h hb (by omega), sf_Fpv h hb (by omega), sf_Fpv h hb (by omega), sf_Fpv h hb (by omega)]; exact hl
theorem sf_Ftg {u v : tc_S} (h : sf_F u v) {b n : Nat} (hb : b + 4 ≤ 14) {i : Nat} : tp_tg n (pv v b) i = tp_tg n (pv u b) i := by
  unfold tp_tg
  rw [sf_Fpv h hb (by omega), sf_Fpv h hb (by omega)]
theorem tp_tg_le {n : Nat} {P : tp_P} {i : Nat} (hi : i < n) : tp_tg n P i ≤ n := by
  unfold tp_tg
  split
  · split <;> omega
  · omega
theorem sf_F1 {fol put : Nat → tc_S → tc_S} (hf : ∀ i v, sf_F v (fol i v)) (hp : ∀ i v, sf_F v (put i v)) (u : tc_S) : ∀ i, sf_F u (sf_1 fol put i u)
  | 0 => fun _ _ => rfl
  | i + 1 => (sf_F1 hf hp u i).tr ((hf _ _).tr (hp _ _))
theorem sf_F2 {fol nar : Nat → tc_S → tc_S} {nch : Nat → tc_S → Int32} {tg : Nat → tc_S → Nat} (hf : ∀ i v, sf_F v (fol i v)) (hn : ∀ i v, sf_F v (nar i v)) (x : tc_S × Int32) : ∀ i, sf_F x.1 (sf_2 fol nar nch tg i x).1
  | 0 => fun _ _ => rfl
  | i + 1 => (sf_F2 hf hn x i).tr ((hf _ _).tr ((hn _ _).tr (hn _ _)))
theorem nI_mil {t : Nat} (h : t < 1000000) : ¬ (1000000 : Int32) ≤ nI t := by rw [show (1000000 : Int32) = nI 1000000 from rfl]; exact nI_ge h (by omega)
def sp_fol (i : Nat) (v : tc_S) : tc_S := tc_row v 22 (tp_fb (pv v 9) i (fun r => v (16 + r) i)) 6
def sp_put (q : Nat) (v : tc_S) : tc_S := tc_col v 16 q (fun r => v 22 r) 6
noncomputable def sp_nar (q : Nat) (v : tc_S) : tc_S := tc_col v 16 q (tc_pf v q) 6
noncomputable def sp_nch (q : Nat) (v : tc_S) : Int32 := tp_b (∃ r, r < 6 ∧ tc_pn v q r)
theorem sp_F1 (i : Nat) (v : tc_S) : sf_F v (sp_fol i v) := fun q hq => tc_row_ne (by omega)
theorem sp_F2 (i : Nat) (v : tc_S) : sf_F v (sp_put i v) := fun q hq => tc_col_out (by omega)
theorem sp_F3 (i : Nat) (v : tc_S) : sf_F v (sp_nar i v) := fun q hq => tc_col_out (by omega)
set_option maxRecDepth 100000 in
set_option maxHeartbeats 4000000 in
theorem c_F_settle_P (l : Launch) (G : tc_G) (u : tc_S) {n : Nat} (hs : u 7 1 = nI n) (hn : n ≤ 16) (hP : ∀ i, i < n → tp_line (pv u 9) i)  : tc_C tcx G l yF_settle wF_settle r0F_settle 0 0 [.ref (tc_ad G 14), .ref (tc_ad G 7), .ref (tc_ad G 7)] u (tc_Kv (sf_3 sp_fol sp_nar sp_nch (fun i v => tp_tg n (pv v 9) i) n 1000000 (sf_1 sp_fol sp_put n u))) := by
  refine tw_ofV (own := "TracedCode$Facts") [some (.ref (tc_ad G 14)), some (.ref (tc_ad G 7)), some (.ref (tc_ad G 7)), none, none, none] (by decide +kernel) rfl (Nat.le_of_ble_eq_true rfl) (by rfl) (fun p e s m args below meth c => ?_)
  obtain ⟨w, hw⟩ : ∃ w, w = (sf_3 sp_fol sp_nar sp_nch (fun i v => tp_tg n (pv v 9) i) n 1000000 (sf_1 sp_fol sp_put n u)) := ⟨_, rfl⟩
  rw [← hw]
  have pass : ∀ (t : Nat) (v : tc_S), sf_F u v → tc_V tcx G p l e r0F_settle s m args below meth c bF_settle 6 tw "TracedCode$Facts" none [] (MQ below (tc_Qc tcx G (tc_Kv w) s.heap.size) args s 0 0 (tc_A tcx G s.heap.size)) 0 0 (sf_2 sp_fol sp_nar sp_nch (fun i v => tp_tg n (pv v 9) i) n (v, 0)).1 98 [some (.ref (tc_ad G 14)), some (.ref (tc_ad G 7)), some (.ref (tc_ad G 7)), some (.int (sf_2 sp_fol sp_nar sp_nch (fun i v => tp_tg n (pv v 9) i) n (v, 0)).2), some (.int (nI t)), some (.int (nI n))] [] → tc_V tcx G p l e r0F_settle s m args below meth c bF_settle 6 tw "TracedCode$Facts" none [] (MQ below (tc_Qc tcx G (tc_Kv w) s.heap.size) args s 0 0 (tc_A tcx G s.heap.size)) 0 0 v 51 [some (.ref (tc_ad G 14)), some (.ref (tc_ad G 7)), some (.ref (tc_ad G 7)), some (.int 0), some (.int (nI t)), some (.int (nI 0))] [] := by
    intro t v hv hend
    have hF : ∀ i, sf_F u (sf_2 sp_fol sp_nar sp_nch (fun i v => tp_tg n (pv v 9) i) i (v, 0)).1 := fun i => hv.tr (sf_F2 sp_F1 sp_F3 (v, 0) i)
    have key : tc_V tcx G p l e r0F_settle s m args below meth c bF_settle 6 tw "TracedCode$Facts" none [] (MQ below (tc_Qc tcx G (tc_Kv w) s.heap.size) args s 0 0 (tc_A tcx G s.heap.size)) 0 0 (sf_2 sp_fol sp_nar sp_nch (fun i v => tp_tg n (pv v 9) i) 0 (v, 0)).1 51 [some (.ref (tc_ad G 14)), some (.ref (tc_ad G 7)), some (.ref (tc_ad G 7)), some (.int (sf_2 sp_fol sp_nar sp_nch (fun i v => tp_tg n (pv v 9) i) 0 (v, 0)).2), some (.int (nI t)), some (.int (nI 0))] [] := by
      refine tv_down (P := fun i => tc_V tcx G p l e r0F_settle s m args below meth c bF_settle 6 tw "TracedCode$Facts" none [] (MQ below (tc_Qc tcx G (tc_Kv w) s.heap.size) args s 0 0 (tc_A tcx G s.heap.size)) 0 0 (sf_2 sp_fol sp_nar sp_nch (fun i v => tp_tg n (pv v 9) i) i (v, 0)).1 51 [some (.ref (tc_ad G 14)), some (.ref (tc_ad G 7)), some (.ref (tc_ad G 7)), some (.int (sf_2 sp_fol sp_nar sp_nch (fun i v => tp_tg n (pv v 9) i) i (v, 0)).2), some (.int (nI t)), some (.int (nI i))] []) n ?_ ?_
      · have hsz : (sf_2 sp_fol sp_nar sp_nch (fun i v => tp_tg n (pv v 9) i) n (v, 0)).1 7 1 = nI n := by rw [hF n 7 (by omega), hs]
        refine tv_iload (pc := 51) dF_settle_51 (by rfl) ?_
        refine tv_aload_n (pc := 53) dF_settle_53 (by rfl) ?_
        refine tv_callVi (pc := 54) [] tb_7 (by rfl) (c_C_size l G _ code_7) (kVC_size wm_192 ⟨by decide, by decide⟩) (by rfl) (Nat.le_of_ble_eq_true rfl) dF_settle_54 ⟨by decide, by decide⟩ ?_
        refine tv_icmp_ge (pc := 57) 98 dF_settle_57 (by decide) (fun _ => ?_) (fun h => absurd (by rw [hsz]; exact Int32.le_refl _) h)
        exact hend
      · intro i hiN ih
        have hsz : (sf_2 sp_fol sp_nar sp_nch (fun i v => tp_tg n (pv v 9) i) i (v, 0)).1 7 1 = nI n := by rw [hF i 7 (by omega), hs]
        have hi16 : tc_ix (nI i) 16 i := tc_ixN (by omega) (by decide)
        have hl := sf_Fline (hF i) (b := 9) (by omega) (hP i hiN)
        obtain ⟨v0, hv0⟩ : ∃ v0, v0 = (sf_2 sp_fol sp_nar sp_nch (fun i v => tp_tg n (pv v 9) i) i (v, 0)) := ⟨_, rfl⟩
        have eih : sf_2 sp_fol sp_nar sp_nch (fun i v => tp_tg n (pv v 9) i) (i + 1) (v, 0) = (sp_nar ((fun i v => tp_tg n (pv v 9) i) i (sp_nar (i + 1) (sp_fol i v0.1))) (sp_nar (i + 1) (sp_fol i v0.1)), (v0.2 ||| sp_nch (i + 1) (sp_fol i v0.1)) ||| sp_nch ((fun i v => tp_tg n (pv v 9) i) i (sp_nar (i + 1) (sp_fol i v0.1))) (sp_nar (i + 1) (sp_fol i v0.1))) := by rw [hv0]; rfl
        rw [eih, ← nI_1] at ih
        have hF0 : sf_F u v0.1 := by rw [hv0]; exact hF i
        rw [← hv0] at hsz hl ⊢
        refine tv_iload (pc := 51) dF_settle_51 (by rfl) ?_
        refine tv_aload_n (pc := 53) dF_settle_53 (by rfl) ?_
        refine tv_callVi (pc := 54) [] tb_7 (by rfl) (c_C_size l G _ code_7) (kVC_size wm_192 ⟨by decide, by decide⟩) (by rfl) (Nat.le_of_ble_eq_true rfl) dF_settle_54 ⟨by decide, by decide⟩ ?_
        refine tv_icmp_ge (pc := 57) 98 dF_settle_57 (by decide) (fun h => absurd h (by rw [hsz]; exact nI_ge (by omega) (by omega))) (fun _ => ?_)
        refine tv_aload_n (pc := 60) dF_settle_60 (by rfl) ?_
        refine tv_aload_n (pc := 61) dF_settle_61 (by rfl) ?_
        refine tv_aload_n (pc := 62) dF_settle_62 (by rfl) ?_
        refine tv_iload (pc := 63) dF_settle_63 (by rfl) ?_
        refine tv_callUv (pc := 65) [_, _, _] tb_14 (by rfl) (c_P_follow l G v0.1 (k2 := 7) code_7 (by decide) (by omega : i < 16) hl) (tw_kU (rm := r0P_follow) (x := (⟨"TracedCode$Facts", "follow", "(LTracedCode$Code;LTracedCode$Code;I)V"⟩ : MethodName)) 3 wm_198 wm_221 wm_222 wm_5 wm_223 (by decide +kernel) rfl rfl (by decide +kernel) wm_196 ⟨by decide, by decide⟩) (by rfl) (Nat.le_of_ble_eq_true rfl) dF_settle_65 ⟨by decide, by decide⟩ ?_
        refine tv_iload_n (pc := 68) dF_settle_68 (by rfl) ?_
        refine tv_aload_n (pc := 69) dF_settle_69 (by rfl) ?_
        refine tv_iload (pc := 70) dF_settle_70 (by rfl) ?_
        refine tv_iconst (v := 1) (pc := 72) dF_settle_72 (by decide) ?_
        refine tv_iadd (pc := 73) dF_settle_73 ?_
        rw [nI_1]
        refine tv_callUi (pc := 74) [_] tb_14 (by rfl) (c_P_narrow l G (sp_fol i v0.1) (pt := (i + 1)) (tc_ixN (by omega) (by decide))) (tw_kU (rm := r0P_narrow) (x := (⟨"TracedCode$Facts", "narrow", "(I)Z"⟩ : MethodName)) 1 wm_239 wm_243 wm_244 wm_5 wm_245 (by decide +kernel) rfl rfl (by decide +kernel) wm_237 ⟨by decide, by decide⟩) (by rfl) (Nat.le_of_ble_eq_true rfl) dF_settle_74 ⟨by decide, by decide⟩ ?_
        refine tv_ior (pc := 77) dF_settle_77 ?_
        refine tv_istore3 (pc := 78) dF_settle_78 (by rfl) ?_
        refine tv_iload_n (pc := 79) dF_settle_79 (by rfl) ?_
        refine tv_aload_n (pc := 80) dF_settle_80 (by rfl) ?_
        have hF1 : sf_F u (sp_nar (i + 1) (sp_fol i v0.1)) := hF0.tr ((sp_F1 _ _).tr (sp_F3 _ _))
        have hsz1 : (sp_nar (i + 1) (sp_fol i v0.1)) 7 1 = nI n := by rw [hF1 7 (by omega), hs]
        have h4 := (sf_Fline hF1 (b := 9) (by omega) (hP i hiN)).2.2.2.1
        refine tv_aload_n (pc := 81) dF_settle_81 (by rfl) ?_
        refine tv_iload (pc := 82) dF_settle_82 (by rfl) ?_
        refine tv_callVi (pc := 84) [_] tb_7 (by rfl) (c_C_target l G _ code_7 hi16 hsz1 hn h4) (kVC_target wm_246 ⟨by decide, by decide⟩) (by rfl) (Nat.le_of_ble_eq_true rfl) dF_settle_84 ⟨by decide, by decide⟩ ?_
        refine tv_callUi (pc := 87) [_] tb_14 (by rfl) (c_P_narrow l G (sp_nar (i + 1) (sp_fol i v0.1)) (pt := (tp_tg n (pv (sp_nar (i + 1) (sp_fol i v0.1)) 9) i)) (tc_ixN (by have := tp_tg_le (n := n) (P := pv (sp_nar (i + 1) (sp_fol i v0.1)) 9) hiN; omega) (by decide))) (tw_kU (rm := r0P_narrow) (x := (⟨"TracedCode$Facts", "narrow", "(I)Z"⟩ : MethodName)) 1 wm_239 wm_243 wm_244 wm_5 wm_245 (by decide +kernel) rfl rfl (by decide +kernel) wm_237 ⟨by decide, by decide⟩) (by rfl) (Nat.le_of_ble_eq_true rfl) dF_settle_87 ⟨by decide, by decide⟩ ?_
        refine tv_ior (pc := 90) dF_settle_90 ?_
        refine tv_istore3 (pc := 91) dF_settle_91 (by rfl) ?_
        refine tv_iinc5 (v := 1) (pc := 92) dF_settle_92 (by decide) (by rfl) ?_
        refine tv_goto (pc := 95) 51 dF_settle_95 (by decide) ?_
        exact ih
    exact key
  have reps : ∀ d t : Nat, t + d = 1000000 → ∀ (v : tc_S) (c0 : Int32) (z : Option Value), sf_F u v → (if c0 = 0 then v else sf_3 sp_fol sp_nar sp_nch (fun i v => tp_tg n (pv v 9) i) n d v) = w → tc_V tcx G p l e r0F_settle s m args below meth c bF_settle 6 tw "TracedCode$Facts" none [] (MQ below (tc_Qc tcx G (tc_Kv w) s.heap.size) args s 0 0 (tc_A tcx G s.heap.size)) 0 0 v 35 [some (.ref (tc_ad G 14)), some (.ref (tc_ad G 7)), some (.ref (tc_ad G 7)), some (.int c0), some (.int (nI t)), z] [] := by
    intro d
    induction d with
    | zero =>
      intro t ht v c0 z hv he
      have e : t = 1000000 := by omega
      refine tv_iload_n (pc := 35) dF_settle_35 (by rfl) ?_
      refine tv_if_eq (pc := 36) 104 dF_settle_36 (by decide) (fun h36 => ?_) (fun h36 => ?_)
      · skip
        exact tv_vret (pc := 104) dF_settle_104 rfl (Nat.le_refl _) (Nat.le_refl _) ⟨rfl, by first | (rw [if_pos (by assumption)] at he; exact he) | (rw [if_neg (by assumption)] at he; exact he)⟩
      · skip
        refine tv_iload (pc := 39) dF_settle_39 (by rfl) ?_
        refine tv_ldc (pc := 41)  wm_236 dF_settle_41 ?_
        refine tv_icmp_ge (pc := 43) 104 dF_settle_43 (by decide) (fun _ => ?_) (fun h => absurd (by rw [e]; decide) h)
        exact tv_vret (pc := 104) dF_settle_104 rfl (Nat.le_refl _) (Nat.le_refl _) ⟨rfl, by first | (rw [if_pos (by assumption)] at he; exact he) | (rw [if_neg (by assumption)] at he; exact he)⟩
    | succ d ihd =>
      intro t ht v c0 z hv he
      refine tv_iload_n (pc := 35) dF_settle_35 (by rfl) ?_
      refine tv_if_eq (pc := 36) 104 dF_settle_36 (by decide) (fun h36 => ?_) (fun h36 => ?_)
      · skip
        exact tv_vret (pc := 104) dF_settle_104 rfl (Nat.le_refl _) (Nat.le_refl _) ⟨rfl, by rw [if_pos (by assumption)] at he; exact he⟩
      · skip
        refine tv_iload (pc := 39) dF_settle_39 (by rfl) ?_
        refine tv_ldc (pc := 41)  wm_236 dF_settle_41 ?_
        refine tv_icmp_ge (pc := 43) 104 dF_settle_43 (by decide) (fun h => absurd h (nI_mil (by omega))) (fun _ => ?_)
        refine tv_iconst (v := 0) (pc := 46) dF_settle_46 (by decide) ?_
        refine tv_istore3 (pc := 47) dF_settle_47 (by rfl) ?_
        refine tv_iconst (v := 0) (pc := 48) dF_settle_48 (by decide) ?_
        refine tv_istore5 (pc := 49) dF_settle_49 (by rfl) ?_
        refine pass t v hv ?_
        have ih := ihd (t + 1) (by omega) (sf_2 sp_fol sp_nar sp_nch (fun i v => tp_tg n (pv v 9) i) n (v, 0)).1 (sf_2 sp_fol sp_nar sp_nch (fun i v => tp_tg n (pv v 9) i) n (v, 0)).2 (some (.int (nI n))) (hv.tr (sf_F2 sp_F1 sp_F3 (v, 0) n)) (by rw [if_neg (by assumption)] at he; exact he)
        rw [← nI_1] at ih
        refine tv_iinc4 (v := 1) (pc := 98) dF_settle_98 (by decide) (by rfl) ?_
        refine tv_goto (pc := 101) 35 dF_settle_101 (by decide) ?_
        exact ih
  have hF : ∀ i, sf_F u (sf_1 sp_fol sp_put i u) := sf_F1 sp_F1 sp_F2 u
  have way : tc_V tcx G p l e r0F_settle s m args below meth c bF_settle 6 tw "TracedCode$Facts" none [] (MQ below (tc_Qc tcx G (tc_Kv w) s.heap.size) args s 0 0 (tc_A tcx G s.heap.size)) 0 0 (sf_1 sp_fol sp_put 0 u) 2 [some (.ref (tc_ad G 14)), some (.ref (tc_ad G 7)), some (.ref (tc_ad G 7)), some (.int (nI 0)), none, none] [] := by
    refine tv_down (P := fun i => tc_V tcx G p l e r0F_settle s m args below meth c bF_settle 6 tw "TracedCode$Facts" none [] (MQ below (tc_Qc tcx G (tc_Kv w) s.heap.size) args s 0 0 (tc_A tcx G s.heap.size)) 0 0 (sf_1 sp_fol sp_put i u) 2 [some (.ref (tc_ad G 14)), some (.ref (tc_ad G 7)), some (.ref (tc_ad G 7)), some (.int (nI i)), none, none] []) n ?_ ?_
    · have hsz : (sf_1 sp_fol sp_put n u) 7 1 = nI n := by rw [hF n 7 (by omega), hs]
      refine tv_iload_n (pc := 2) dF_settle_2 (by rfl) ?_
      refine tv_aload_n (pc := 3) dF_settle_3 (by rfl) ?_
      refine tv_callVi (pc := 4) [] tb_7 (by rfl) (c_C_size l G _ code_7) (kVC_size wm_192 ⟨by decide, by decide⟩) (by rfl) (Nat.le_of_ble_eq_true rfl) dF_settle_4 ⟨by decide, by decide⟩ ?_
      refine tv_icmp_ge (pc := 7) 30 dF_settle_7 (by decide) (fun _ => ?_) (fun h => absurd (by rw [hsz]; exact Int32.le_refl _) h)
      refine tv_iconst (v := 1) (pc := 30) dF_settle_30 (by decide) ?_
      refine tv_istore3 (pc := 31) dF_settle_31 (by rfl) ?_
      refine tv_iconst (v := 0) (pc := 32) dF_settle_32 (by decide) ?_
      refine tv_istore4 (pc := 33) dF_settle_33 (by rfl) ?_
      exact reps 1000000 0 (by omega) _ 1 none (hF n) (by rw [if_neg (by decide)]; exact hw.symm)
    · intro i hiN ih
      have hsz : (sf_1 sp_fol sp_put i u) 7 1 = nI n := by rw [hF i 7 (by omega), hs]
      have hi16 : tc_ix (nI i) 16 i := tc_ixN (by omega) (by decide)
      have hl := sf_Fline (hF i) (b := 9) (by omega) (hP i hiN)
      obtain ⟨v0, hv0⟩ : ∃ v0, v0 = (sf_1 sp_fol sp_put i u) := ⟨_, rfl⟩
      rw [show sf_1 sp_fol sp_put (i + 1) u = sp_put (i + 1) (sp_fol i v0) from by rw [hv0]; rfl, ← nI_1] at ih
      have hF0 : sf_F u v0 := by rw [hv0]; exact hF i
      rw [← hv0] at hsz hl ⊢
      refine tv_iload_n (pc := 2) dF_settle_2 (by rfl) ?_
      refine tv_aload_n (pc := 3) dF_settle_3 (by rfl) ?_
      refine tv_callVi (pc := 4) [] tb_7 (by rfl) (c_C_size l G _ code_7) (kVC_size wm_192 ⟨by decide, by decide⟩) (by rfl) (Nat.le_of_ble_eq_true rfl) dF_settle_4 ⟨by decide, by decide⟩ ?_
      refine tv_icmp_ge (pc := 7) 30 dF_settle_7 (by decide) (fun h => absurd h (by rw [hsz]; exact nI_ge (by omega) (by omega))) (fun _ => ?_)
      refine tv_aload_n (pc := 10) dF_settle_10 (by rfl) ?_
      refine tv_aload_n (pc := 11) dF_settle_11 (by rfl) ?_
      refine tv_aload_n (pc := 12) dF_settle_12 (by rfl) ?_
      refine tv_iload_n (pc := 13) dF_settle_13 (by rfl) ?_
      refine tv_callUv (pc := 14) [_, _, _] tb_14 (by rfl) (c_P_follow l G v0 (k2 := 7) code_7 (by decide) (by omega : i < 16) hl) (tw_kU (rm := r0P_follow) (x := (⟨"TracedCode$Facts", "follow", "(LTracedCode$Code;LTracedCode$Code;I)V"⟩ : MethodName)) 3 wm_198 wm_221 wm_222 wm_5 wm_223 (by decide +kernel) rfl rfl (by decide +kernel) wm_196 ⟨by decide, by decide⟩) (by rfl) (Nat.le_of_ble_eq_true rfl) dF_settle_14 ⟨by decide, by decide⟩ ?_
      refine tv_aload_n (pc := 17) dF_settle_17 (by rfl) ?_
      refine tv_iload_n (pc := 18) dF_settle_18 (by rfl) ?_
      refine tv_iconst (v := 1) (pc := 19) dF_settle_19 (by decide) ?_
      refine tv_iadd (pc := 20) dF_settle_20 ?_
      rw [nI_1]
      refine tv_callUv (pc := 21) [_] tb_14 (by rfl) (c_P_put l G (sp_fol i v0) (pt := (i + 1)) (tc_ixN (by omega) (by decide))) (tw_kU (rm := r0P_put) (x := (⟨"TracedCode$Facts", "put", "(I)V"⟩ : MethodName)) 1 wm_229 wm_233 wm_234 wm_5 wm_235 (by decide +kernel) rfl rfl (by decide +kernel) wm_227 ⟨by decide, by decide⟩) (by rfl) (Nat.le_of_ble_eq_true rfl) dF_settle_21 ⟨by decide, by decide⟩ ?_
      refine tv_iinc3 (v := 1) (pc := 24) dF_settle_24 (by decide) (by rfl) ?_
      refine tv_goto (pc := 27) 2 dF_settle_27 (by decide) ?_
      exact ih
  refine tv_iconst (v := 0) (pc := 0) dF_settle_0 (by decide) ?_
  refine tv_istore3 (pc := 1) dF_settle_1 (by rfl) ?_
  exact way
