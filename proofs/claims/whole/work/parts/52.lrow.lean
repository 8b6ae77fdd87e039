/-! the law's rows: a static call of a method with handlers; the script; from building to walking -/
section TL
variable {G : tc_G} {p : Program} {l : Launch} {e : Env} {R : Room} {s : State} {m : MethodId} {args : Array Value} {below : List Frame} {meth : Method} {c : Code}
variable {cc : ByteArray} {nL : Nat} {own : String} {ret : Option FieldType} {hh : List (Nat × Nat × Nat × Nat)} {Q : State → Prop} {cells slots : Nat} {u : tc_S} {pc : Nat} {lv : List (Option Value)} {rest : List Value}
theorem tv_callSW {index maxL mc ms n : Nat} {y : MethodName} {rm : Room} {bytes : ByteArray} {ret' : Option FieldType} {h2 : List (Nat × Nat × Nat × Nat)} (As : List Value) {F : Int32 → tc_S → Prop} (hC : tc_C tcx G l y (Cond.codeWith y bytes maxL ret' h2 :: tw) rm mc ms As u (tc_KI F)) (h1 : Cond.methodLink own index y ∈ tw) (h3 : Cond.static y ∈ tw) (h4 : Cond.initialized y.cls ∈ tw) (h5 : Cond.codeWith y bytes maxL ret' h2 ∈ tw)
    (hrc : rm.cells = mc) (hrs : rm.slots = ms) (hR : rm.frames + 1 ≤ R.frames ∧ 8 + (maxL + 11) + rm.locals ≤ R.locals) (hd : y.cls ≠ "java/lang/invoke/MethodHandle" ∧ y.cls ≠ "java/lang/invoke/VarHandle" ∧ (parseMethodDescriptor y.desc).map (fun d => d.parameters.length) = some n) (hn : As.length = n) (hW : (rest.map fun v => v.category).sum ≤ 8) (d : decode cc pc = .ok (.invokestatic index, 3)) (hf : cells + mc ≤ R.cells ∧ slots + ms ≤ R.slots)
    (kk : ∀ (r : Int32) (v : tc_S), F r v → tc_V tcx G p l e R s m args below meth c cc nL tw own ret hh Q (cells + mc) (slots + ms) v (pc + 3) lv (.int r :: rest)) : tc_V tcx G p l e R s m args below meth c cc nL tw own ret hh Q cells slots u pc lv (As.reverse ++ rest) := by
  intro hx hb hm ho ht hr hk hq0 ls H locs hl hw
  have hpay := pay_in ht (tw_GI (tw_c h5))
  have hK : Back l R p e below s args y 3 8 (PreOf R mc ms (tc_Pc tcx G As u H.size)) (PostOf (tc_Qc tcx G (tc_KI F) H.size) mc ms (tc_A tcx G H.size)) :=
    va_backW (hh := h2) (bytes := bytes) (maxL := maxL) (ret := ret') (hC H.size) tc_blind hrc hrs hR.1 hR.2 hpay List.mem_cons_self (fun a' U hW => hpay _ (List.mem_cons_of_mem _ h4) a' U hW)
  refine tc_cont (K := tc_KI F) (mc := mc) (ms := ms) (rest := rest) (a := As.toArray) hw ?_ (fun v u' H1 locs1 hK hw1 => by
    obtain ⟨r, e1, e2⟩ := hK
    cases e1
    exact kk r u' e2 hx hb hm ho ht hr hk hq0 ls H1 locs1 hl hw1)
  intro T hT XT
  obtain ⟨mk, methM, cM, hnamed, hmethM, -, -, -, -, -, -, hsigM⟩ := Cond.codeWith_spec (ht _ h5)
  have hstatic : methM.isStatic = true := Cond.static_spec hnamed hmethM (ht _ h3)
  obtain ⟨kP, hkP, -⟩ := className_of_methodNamed hnamed
  have hinitP : kP.init = .initialized := Cond.initialized_spec (findClass_of_methodNamed hnamed) hkP (ht _ h4)
  have hlen : As.length = methM.sig.parameters.length := by
    have h2 := hd.2.2
    rw [hsigM] at h2
    rw [hn]; exact (Option.some.inj h2).symm
  obtain ⟨vm₁, X₁, hstep₁⟩ := XT.invokestatic hx ho (ht _ h1) hnamed hmethM hstatic hkP hinitP ⟨hd.1, hd.2.1⟩ (g := F0 m pc ls (As.reverse ++ rest)) rfl (argsL := As) (rest := rest) hlen rfl (by rw [hb]; exact d)
  obtain ⟨v, ⟨U', l2, c2, s2⟩, X', ⟨g', mk', t, L, e1, e2, hq, w1, hL, w2, w3⟩, st⟩ := hK m meth c ⟨T.setVm vm₁, locs, cells, slots⟩ (F0 m pc ls rest) (.invokestatic index) mk As.toArray X₁ rfl (hl.1.trans hm.symm) (by rw [hb]; exact d) (lv_room hW) (X₁.named hnamed) ⟨hf.1, hf.2, tc_pre hw (T.setVm vm₁) hT X₁.warmed⟩
  dsimp only [Pt.U, Pt.locs, Pt.cells, Pt.slots] at X' e1 e2 w1 w2 w3 st
  subst w1; subst w2; subst w3
  exact ⟨v, (T.setVm vm₁).calling g' mk' As.toArray, t, U', L, hT, X', hL, e1, e2, hq, fun tg h => hstep₁ _ fun acts => by rw [doInvoke_state]; exact st.trans h⟩
theorem tv_sald {sa L j : Nat} {xs : Nat → Int32} {i : Int32} (hX : va_X sa L xs s s.heap) (hbl : sa < s.heap.size) (hbA : ¬ tc_A tcx G s.heap.size sa) (hi : tc_ix i L j) (d : decode cc pc = .ok (.iaload, 1)) (kk : tc_V tcx G p l e R s m args below meth c cc nL tw own ret hh Q cells slots u (pc + 1) lv (.int (xs j) :: rest)) : tc_V tcx G p l e R s m args below meth c cc nL tw own ret hh Q cells slots u pc lv (.int i :: .ref sa :: rest) := by
  intro hx hb hm ho ht hr hk hq0 ls H locs hl hw
  have key := kk hx hb hm ho ht hr hk hq0 ls H locs hl hw
  rw [← hi.2.1] at key
  exact va_sld hx hb hX hbl hbA hw.2.2.2.1 hi.in d key
theorem tv_slen {sa L : Nat} {xs : Nat → Int32} (hX : va_X sa L xs s s.heap) (hbl : sa < s.heap.size) (hbA : ¬ tc_A tcx G s.heap.size sa) (d : decode cc pc = .ok (.arraylength, 1)) (kk : tc_V tcx G p l e R s m args below meth c cc nL tw own ret hh Q cells slots u (pc + 1) lv (.int (nI L) :: rest)) : tc_V tcx G p l e R s m args below meth c cc nL tw own ret hh Q cells slots u pc lv (.ref sa :: rest) :=
  fun hx hb hm ho ht hr hk hq0 ls H locs hl hw => va_slen hx hb hX hbl hbA hw.2.2.2.1 d (kk hx hb hm ho ht hr hk hq0 ls H locs hl hw)
end TL
theorem lg_same {x y : Int32} (h : x = y) : lg_cmp x.toInt64 y.toInt64 = 0 := by
  rw [h]
  unfold lg_cmp
  simp
/-- the script's next four places -/
theorem sc_ix {L i a : Nat} (hL : L ≤ 2048) (h : i + a < L) : tc_ix (nI i + nI a) L (i + a) := by
  rw [nI_add]
  exact tc_ixN h (by omega)
