/-! THE CLAIM OUT OF ONE WALK OF THE LAW'S BODY. Your part is whole_start (and what it stands on); all else here is the same for every law, but numbers. -/
def R_law : String := "TracedCodeLaw"
def lw_P (b : Addr) (xs : List Int32) (args : Array Value) (s : State) : Prop := args = #[.ref b] ∧ s.IntsAt b xs ∧ xs.length ≤ 2048 ∧ (Jvm.Cond.and given_1 narrow_1).before args s = true
def lw_Q (_ : Array Value) (s : State) (o : Outcome) (t : State) : Prop := o = .returned (some (.int 1)) ∧ Framed s o t [] 601024 7293034
def lw_Z (below : List Frame) (a : Array Value) (s : State) : State → Prop := fun t => ∃ o, t.status = .running ∧ Ended t below o ∧ lw_Q a s o t
/-- the law's own end, with 1 on the stack, nothing written that was there before, its room as the claim has it -/
theorem lw_ret {p : Program} {l : Launch} {e : Env} {s : State} {m : MethodId} {below : List Frame} {meth : Method} {c : Code} {b : Nat} (hx : p.tables.exec = Jvm.exec) (hb : c.code = code) (hr : meth.sig.returnType = ret) (hlocks : meth.locks = false) {pc : Nat} {H : Heap} {ls : Array Slot} (hdg : decode code pc = .ok (.ireturn, 1)) : W p l e room_1 s m #[Value.ref b] below meth c H [] 601024 7293034 (lw_Z below #[Value.ref b] s) (F0 m pc ls [.int 1]) := by
  intro T hT X
  obtain ⟨fs, hret, hrun, hended, hW, hframe⟩ := X.leave (v := some (.int 1)) (hlocks := hlocks) (fun h => by rw [hr] at h; cases h)
  have hmeth' : T.vm.method? m = some meth := X.method'
  refine ⟨T.setFrames fs, ?_, .returned (some (.int 1)), hrun, hended, rfl, ⟨_, rfl⟩, hW, hframe⟩
  jvm_step X.here [X.here.top, hx, hb, hdg, hmeth', hr, ret, narrow_b1]
  (try refine ⟨rfl, ?_⟩); (try refine ⟨rfl, ?_⟩)
  first | (intro acts; rw [hret _ acts rfl rfl rfl]) | rw [hret _ _ rfl rfl rfl]
  exact Steps.refl _
/-- what holds at the law's entry: the machine, the code, the tables' words (any of lw_tbl by 'hts w (by decide +kernel)'), the script of L ints xs at the cell b, what the Statement gives of the start (any of its parts by flat_of_before) -/
def lw_At (p : Program) (s : State) (m : MethodId) (meth : Method) (c : Code) (b L : Nat) (xs : Nat → Int32) : Prop :=
  p.tables.exec = Jvm.exec ∧ c.code = code ∧ meth.sig.returnType = ret ∧ c.maxLocals = 7 ∧ s.vm.findClass R_law = some m.cls ∧ (∀ w ∈ lw_tbl, w.before #[Value.ref b] s = true) ∧ va_X b L xs s s.heap ∧ b < s.heap.size ∧ meth.locks = false ∧ (Jvm.Cond.and given_1 narrow_1).before #[Value.ref b] s = true
theorem tl_of {w : Cond} (i : Nat) (h : tables_1[i]? = some w) : w ∈ lw_tbl := List.mem_append_right _ (List.mem_of_getElem? h)
set_option maxRecDepth 100000 in
set_option maxHeartbeats 4000000 in
theorem st_N {s : State} {b : Nat} (hts : ∀ w ∈ lw_tbl, w.before #[Value.ref b] s = true) (hgv : (Jvm.Cond.and given_1 narrow_1).before #[Value.ref b] s = true) : tc_N tcx s := by
  have hall := flat_of_before _ hgv
  refine ⟨?_, ?_, ?_⟩
  · exact List.forall_mem_cons.mpr ⟨va_Nw.of rfl (hts _ (tl_of 29 (by decide +kernel))), List.forall_mem_cons.mpr ⟨va_Nw.of rfl (hts _ (tl_of 45 (by decide +kernel))), List.forall_mem_cons.mpr ⟨va_Nw.of rfl (hts _ (tl_of 51 (by decide +kernel))), List.forall_mem_cons.mpr ⟨va_Nw.of rfl (hts _ (tl_of 54 (by decide +kernel))), List.forall_mem_cons.mpr ⟨va_Nw.of rfl (hts _ (tl_of 75 (by decide +kernel))), List.forall_mem_cons.mpr ⟨va_Nw.of rfl (hts _ (tl_of 78 (by decide +kernel))), List.forall_mem_cons.mpr ⟨va_Nw.of rfl (hts _ (tl_of 95 (by decide +kernel))), List.forall_mem_cons.mpr ⟨va_Nw.of rfl (hts _ (tl_of 101 (by decide +kernel))), fun _ h => absurd h List.not_mem_nil⟩⟩⟩⟩⟩⟩⟩⟩
  · exact List.forall_mem_cons.mpr ⟨va_Nw.of rfl (hts _ (tl_of 188 (by decide +kernel))), List.forall_mem_cons.mpr ⟨va_Nw.of rfl (hts _ (tl_of 197 (by decide +kernel))), List.forall_mem_cons.mpr ⟨va_Nw.of rfl (hts _ (tl_of 228 (by decide +kernel))), List.forall_mem_cons.mpr ⟨va_Nw.of rfl (hts _ (tl_of 238 (by decide +kernel))), List.forall_mem_cons.mpr ⟨va_Nw.of rfl (hts _ (tl_of 338 (by decide +kernel))), List.forall_mem_cons.mpr ⟨va_Nw.of rfl (hts _ (tl_of 339 (by decide +kernel))), List.forall_mem_cons.mpr ⟨va_Nw.of rfl (hts _ (tl_of 340 (by decide +kernel))), List.forall_mem_cons.mpr ⟨va_Nw.of rfl (hts _ (tl_of 341 (by decide +kernel))), List.forall_mem_cons.mpr ⟨va_Nw.of rfl (hts _ (tl_of 342 (by decide +kernel))), List.forall_mem_cons.mpr ⟨va_Nw.of rfl (hts _ (tl_of 343 (by decide +kernel))), fun _ h => absurd h List.not_mem_nil⟩⟩⟩⟩⟩⟩⟩⟩⟩⟩
  · exact List.forall_mem_cons.mpr ⟨st_yes (hts _ (tl_of 337 (by decide +kernel))), List.forall_mem_cons.mpr ⟨st_yes (hts _ (tl_of 409 (by decide +kernel))), List.forall_mem_cons.mpr ⟨st_yes (hts _ (tl_of 493 (by decide +kernel))), List.forall_mem_cons.mpr ⟨st_yes (hts _ (tl_of 639 (by decide +kernel))), List.forall_mem_cons.mpr ⟨st_no (hts _ (tl_of 409 (by decide +kernel))) (hts _ (tl_of 337 (by decide +kernel))) (hall _ (by decide +kernel)), List.forall_mem_cons.mpr ⟨st_no (hts _ (tl_of 493 (by decide +kernel))) (hts _ (tl_of 409 (by decide +kernel))) (hall _ (by decide +kernel)), List.forall_mem_cons.mpr ⟨st_no (hts _ (tl_of 639 (by decide +kernel))) (hts _ (tl_of 409 (by decide +kernel))) (hall _ (by decide +kernel)), List.forall_mem_cons.mpr ⟨st_no (hts _ (tl_of 639 (by decide +kernel))) (hts _ (tl_of 493 (by decide +kernel))) (hall _ (by decide +kernel)), fun _ h => absurd h List.not_mem_nil⟩⟩⟩⟩⟩⟩⟩⟩
set_option maxRecDepth 100000 in
set_option maxHeartbeats 4000000 in
theorem st_Z {s : State} {b : Nat} {A : Nat → Prop} (hts : ∀ w ∈ lw_tbl, w.before #[Value.ref b] s = true) (hgv : (Jvm.Cond.and given_1 narrow_1).before #[Value.ref b] s = true) (hA : ∀ a : Nat, a < s.heap.size → ¬ A a) : tc_Z tcx A s s.heap := by
  have hall := flat_of_before _ hgv
  have hel : ∀ j : Nat, j < 6 → (Term.elem (.static "TracedCode$Code" "READ_PLACES" "[I") (.int (Int32.ofNat j))).eval #[Value.ref b] s none [] s = some (.int (([0, 4, 12, 2, 2, 4] : List Int32).getD j 0)) := by
    intro j hj
    have : j = 0 ∨ j = 1 ∨ j = 2 ∨ j = 3 ∨ j = 4 ∨ j = 5 := by omega
    rcases this with rfl | rfl | rfl | rfl | rfl | rfl
    · exact va_eqt (hall _ (by decide +kernel))
    · exact va_eqt (hall _ (by decide +kernel))
    · exact va_eqt (hall _ (by decide +kernel))
    · exact va_eqt (hall _ (by decide +kernel))
    · exact va_eqt (hall _ (by decide +kernel))
    · exact va_eqt (hall _ (by decide +kernel))
  obtain ⟨t, h1, h2⟩ := va_Tof (tm := .static "TracedCode$Code" "READ_PLACES" "[I") (ty := .int) (N := 6) (f := fun j => .int (([0, 4, 12, 2, 2, 4] : List Int32).getD j 0)) (A := A) (by decide) (hall _ (by decide +kernel)) (va_eqt (hall _ (by decide +kernel))) hel hA
  refine ⟨List.forall_mem_cons.mpr ⟨⟨t, va_Zref (hts _ (tl_of 260 (by decide +kernel))) (hts _ (tl_of 2 (by decide +kernel))) h1 hA, h2⟩, fun _ h => absurd h List.not_mem_nil⟩, ?_⟩
  exact List.forall_mem_cons.mpr ⟨tc_O.of (hts _ (tl_of 362 (by decide +kernel))) (hall _ (by decide +kernel)) hA, List.forall_mem_cons.mpr ⟨tc_O.of (hts _ (tl_of 364 (by decide +kernel))) (hall _ (by decide +kernel)) hA, fun _ h => absurd h List.not_mem_nil⟩⟩
set_option maxRecDepth 100000 in
set_option maxHeartbeats 4000000 in
theorem whole_start {p : Program} {e : Env} {s : State} {m : MethodId} {below : List Frame} {meth : Method} {c : Code} (l : Launch) (hl : l.stackTraces = false) {b L : Nat} {xs : Nat → Int32} (hL : L ≤ 2048) (C0 : lw_At p s m meth c b L xs) : W p l e room_1 s m #[Value.ref b] below meth c s.heap [] 0 0 (lw_Z below #[Value.ref b] s) (entryFrame m ([Value.ref b] : List Value).toArray 7) := by
  obtain ⟨hx, hb, hr, hml, hown, hts, hX, hbl, hlk, hgv⟩ := C0
  have htw : ∀ w ∈ tw, w.before #[Value.ref b] s = true := fun w hw => hts w (List.mem_filter.mp hw).1
  have hov : (Cond.arrayOver (.array .int)).before #[Value.ref b] s = true := hts _ (tl_of 34 (by decide +kernel))
  obtain ⟨G0, hK⟩ := st_K htw hov
  obtain ⟨G, eG⟩ : ∃ G : tc_G, G = (G0.1, G0.2, fun k => s.heap.size + k) := ⟨_, rfl⟩
  have hG : ∀ k, tc_ad G k = s.heap.size + k := fun k => by rw [eG]; rfl
  have hK' : va_K G.1 tw_cl (tc_ty G) s := by rw [eG]; exact hK
  have hA : ∀ a : Nat, a < s.heap.size → ¬ tc_A tcx G s.heap.size a := fun a ha z => by rw [tc_A0 hG] at z; omega
  have hF : ty_F G s.heap.size s := ⟨hK', hG, st_N hts hgv, over_moved (Vm.Alike.refl _) hov⟩
  have hZ : tc_Z tcx (tc_A tcx G s.heap.size) s s.heap := st_Z hts hgv hA
  have fin : ∀ (cells slots i : Nat) (a5 a6 : Option Value) (u : tc_S), cells ≤ 601024 → slots ≤ 7293034 → tc_V tcx G p l e room_1 s m #[Value.ref b] below meth c bL_law 7 tw "TracedCodeLaw" (some .boolean) (c.exceptionTable.toList.map (fun h => (h.startPc, h.endPc, h.handlerPc, h.catchType))) (lw_Z below #[Value.ref b] s) cells slots u 1206 [some (.ref b), some (.ref (tc_ad G 0)), some (.ref (tc_ad G 56)), some (.ref (tc_ad G 76)), some (.int (nI i)), a5, a6] [] := by
    intro cells slots i a5 a6 u h1 h2
    refine tv_iconst (v := 1) (pc := 1206) dL_law_1206 (by decide) ?_
    intro hx hb hm ho ht hr hk hq0 ls H locs hl hw
    exact W.widen h1 h2 (va_forget (fun q hq => (tc_A0 hG _).mp (hw.2.2.2.1.2.2 q hq)) (lw_ret hx hb hr hk dL_law_1207))
  have hl0 := lv_entry [Value.ref b] (n := 7) (Nat.le_of_ble_eq_true rfl)
  rw [lg_entry_eq]
  have key : tc_Y G s.heap.size p l e room_1 s m #[Value.ref b] below meth c bL_law 7 "TracedCodeLaw" meth.name (some .boolean) (lw_Z below #[Value.ref b] s) 0 0 [] 0 [some (.ref b), none, none, none, none, none, none] [] := by
    refine ty_newE (pc := 0) tyT_ (fl := [1, 1, 1, 1, 1, 0]) yt_0 0 (by rfl) (by rfl) uwT_ okT_ wm_19 wm_20 wm_1 (by rfl) (fun G j hj => by 
      have : j = 0 ∨ j = 1 ∨ j = 2 ∨ j = 3 ∨ j = 4 ∨ j = 5 := by omega
      rcases this with rfl | rfl | rfl | rfl | rfl | rfl <;> rfl) dL_law_0 ⟨by decide, by decide⟩ ?_
    refine ty_dup (pc := 3) dL_law_3 (by rfl) ?_
    refine ty_callI (pc := 4) (cy_T_0 l G _) (ky_T_55 wm_21 ⟨by decide, by decide⟩) (Nat.le_of_ble_eq_true rfl) dL_law_4 ⟨by decide, by decide⟩ ?_
    refine ty_astore_g (pc := 7) dL_law_7 (Nat.le_of_ble_eq_true rfl) (by rfl) ?_
    refine ty_newE (pc := 8) tyD_ (fl := [0, 0, 1, 1, 1, 1, 0, 1, 1, 1, 1, 1, 1, 1, 0, 1, 1, 1, 1, 0, 0, 1, 1, 1, 0, 1, 0]) yt_47 56 (by rfl) (by rfl) uwD_ okD_ wm_656 wm_657 wm_9 (by rfl) (fun G j hj => by 
      have : j = 0 ∨ j = 1 ∨ j = 2 ∨ j = 3 ∨ j = 4 ∨ j = 5 ∨ j = 6 ∨ j = 7 ∨ j = 8 ∨ j = 9 ∨ j = 10 ∨ j = 11 ∨ j = 12 ∨ j = 13 ∨ j = 14 ∨ j = 15 ∨ j = 16 ∨ j = 17 ∨ j = 18 ∨ j = 19 ∨ j = 20 ∨ j = 21 ∨ j = 22 ∨ j = 23 ∨ j = 24 ∨ j = 25 ∨ j = 26 := by omega
      rcases this with rfl | rfl | rfl | rfl | rfl | rfl | rfl | rfl | rfl | rfl | rfl | rfl | rfl | rfl | rfl | rfl | rfl | rfl | rfl | rfl | rfl | rfl | rfl | rfl | rfl | rfl | rfl <;> rfl) dL_law_8 ⟨by decide, by decide⟩ ?_
    refine ty_dup (pc := 11) dL_law_11 (by rfl) ?_
    refine ty_callI (pc := 12) (cy_D_56 l G _) (ky_D_19 wm_658 ⟨by decide, by decide⟩) (Nat.le_of_ble_eq_true rfl) dL_law_12 ⟨by decide, by decide⟩ ?_
    refine ty_astore_g (pc := 15) dL_law_15 (Nat.le_of_ble_eq_true rfl) (by rfl) ?_
    refine ty_iconst (v := 1) (pc := 16) dL_law_16 (by decide) ?_
    refine ty_newJ (pc := 17) yt_86 76 (by rfl) (by rfl) wm_909 (by decide) (by decide) (by decide) dL_law_17 ⟨by decide, by decide⟩ ?_
    refine ty_astore_g (pc := 19) dL_law_19 (Nat.le_of_ble_eq_true rfl) (by rfl) ?_
    refine ty_V hZ ?_
    refine tv_iconst (v := 0) (pc := 20) dL_law_20 (by decide) ?_
    refine tv_istore4 (pc := 21) (a0 := some (.ref b)) (a1 := some (.ref (tc_ad G 0))) (a2 := some (.ref (tc_ad G 56))) (a3 := some (.ref (tc_ad G 76))) (a4 := none) (tl := [none, none]) dL_law_21 (by rfl) ?_
    exact law_loop l hl G hL hX hbl (hA b hbl) fin 512 0 77 2104 none none tc_0 (by omega) (by omega) (by omega) (by omega) ⟨0, j_0⟩
  exact key hx hb hml hown htw hr hlk rfl hF _ s.heap [] hl0 ⟨fun k q hk => (by cases hk), rfl⟩ va_S.rf
set_option maxHeartbeats 4000000 in
theorem lw_walk (l : Launch) (hl : l.stackTraces = false) (b : Addr) (xs : List Int32) : MetFree l x (headSpec (Jvm.Cond.code x code maxLocals ret :: tables_1) room_1) (lw_P b xs) (fun _ _ _ _ _ => True) lw_Q := by
  refine MetFree.of_bodyS (code := code) (maxLocals := maxLocals) (ret := ret) (by decide) ?_ ?_
  · intro args s m h hn
    obtain ⟨meth, c, h1, h2, h3, h4, h5, h6, -, -⟩ := Cond.code_spec hn (atoms_spec (ws := Jvm.Cond.code x code maxLocals ret :: tables_1) h _ List.mem_cons_self)
    exact ⟨meth, c, h1, h2, h3, h4, h5, h6⟩
  · intro p e s m args below meth c s₁ B hml0 hP _
    obtain ⟨rfl, hx, hbd, hgv⟩ := hP
    obtain ⟨scr, harrAt, hlist, hof, hsmall⟩ := hx
    obtain ⟨hcb, hkn, -, -⟩ := State.arrayAt?_spec harrAt
    have hown : s.vm.findClass R_law = some m.cls := findClass_of_methodNamed B.named
    have hts0 : ∀ c ∈ (Jvm.Cond.code x code maxLocals ret :: tables_1), c.before #[Value.ref b] s = true := atoms_spec (ws := Jvm.Cond.code x code maxLocals ret :: tables_1) B.pre
    have hts : ∀ w ∈ lw_tbl, w.before #[Value.ref b] s = true := k2_hts_sels lw_privs (fun w hw => hts0 w (List.mem_cons_of_mem _ hw)) lw_privs_ok
    have hml : c.maxLocals = 7 := B.maxLocals_eq (hts0 _ List.mem_cons_self)
    have X₀ : Stand p l e room_1 s m #[Value.ref b] below meth c s₁ [] 0 0 := Stand.of_body B
    have hh0 : s₁.heap = s.heap := by rw [B.state]; rfl
    have hsz : scr.slots.size = xs.length := by rw [← Array.length_toList, hlist, List.length_map]
    have hval : ∀ j : Nat, j < xs.length → scr.slots[j]? = some (.int (xs.getD j 0)) := fun j hj => by
      rw [← Array.getElem?_toList, hlist]
      simp [hj]
    have hbl : b < s.heap.size := (Array.getElem?_eq_some_iff.mp hcb).1
    have hX : va_X b xs.length (fun j => xs.getD j 0) s s.heap := ⟨scr, hcb, hof, hkn, hsz, hval⟩
    have K : W p l e room_1 s m #[Value.ref b] below meth c s₁.heap [] 0 0 (lw_Z below #[Value.ref b] s) (entryFrame m ([Value.ref b] : List Value).toArray 7) := by
      rw [hh0]
      exact whole_start l hl hbd ⟨B.exec, B.bytes, B.returns, hml, hown, hts, hX, hbl, B.notSynchronized, hgv⟩
    obtain ⟨t, a1, o, b1, b2, b3⟩ := K s₁ rfl X₀
    exact ⟨t, o, a1, b1, b2, b3⟩
theorem lw_pre_spec {args : Array Value} {s : State} (h : (Jvm.Cond.and given_1 narrow_1).before args s = true) (hr : rest_1_c.before args s = true) : ∃ (b : Addr) (xs : List Int32), lw_P b xs args s := by
  have hs := flat_of_before _ h
  have hq := flat_of_before _ hr
  have hc : (Cond.count 1).before args s = true := hs _ (by decide +kernel)
  have harr : (Cond.arrayOf (.arg 0) .int).before args s = true := hs _ (by decide +kernel)
  have hle : (Cond.le (.length (.arg 0)) (.int 2048)).before args s = true := hs _ (by decide +kernel)
  have hlen : (Cond.isInt (.length (.arg 0))).before args s = true := hq _ (by decide +kernel)
  have hall : (Cond.all (.arg 0) (.isInt (.elem (.arg 0) (.index 0)))).before args s = true := hq _ (by decide +kernel)
  obtain ⟨b, xs, hb, hx⟩ := State.ints_of_pre rfl harr hlen hall
  have hsm : xs.length < 2 ^ 31 := hx.choose_spec.2.2.2
  have hev : (Term.length (.arg 0)).eval args s none [] s = some (.int xs.length.toInt32) := hx.length_eval hb
  have hv := Cond.le_ints hev (show (Term.int 2048).eval args s none [] s = some (.int 2048) from rfl)
  have hd : xs.length.toInt32 ≤ 2048 := by
    simpa [Cond.before, Cond.holds, hv] using hle
  have hN : xs.length ≤ 2048 := (Int32.ofNat_le_ofNat hsm (by decide)).mp (show Int32.ofNat xs.length ≤ Int32.ofNat 2048 from hd)
  exact ⟨b, xs, Cond.one_arg hc (show args[0]? = some (.ref b) from hb), hx, hN, h⟩
theorem lw_comes (l : Launch) (hl : l.stackTraces = false) : Comes l x (Jvm.Cond.code x code maxLocals ret :: tables_1) room_1 (fun tb e args s => Calls_1 tb e args s ∧ rest_1 tb e args s ∧ Pre_1 tb e args s)
    (fun _ _ args s o t => lw_Q args s o t) := by
  intro p e ha hc hk s m args below hf hfit hheap happ hpre
  obtain ⟨b, xs, hP⟩ := lw_pre_spec hpre.2.2 hpre.2.1
  obtain ⟨k, o, h1, h2, h3, hQ⟩ := lw_walk l hl b xs p e ha hc hk s m args below hf ((Spec.applies_iff_loose hf).mp happ).1 hP trivial
  exact ⟨k, o, h1, h2, h3, hQ⟩
theorem lw_frame {s t : State} {o : Outcome} {args : Array Value} (h : Framed s o t [] 601024 7293034) :
    Framed s o t (fieldLocs frame_1_writes args s ++ arrayLocs frame_1_arrays args s ++ staticLocs frame_1_statics s) 601024 7293034 := h
theorem lw_off {l : Launch} (h : l.flags = flags0) : l.stackTraces = false := by
  unfold Launch.stackTraces
  rw [h]
  decide +kernel
theorem lw_limb (L : Cond) (hL : ∀ (args : Array Value) (s t : State), L.after args s (.returned (some (.int 1))) t = true) :
    ArmFor flags0 classFile x code maxLocals ret World_1 tables_1 room_1 Calls_1 rest_1 Pre_1
      (fun tb e a s o t => postC L tb e a s o t ∧ Framed s o t (fieldLocs frame_1_writes a s ++ arrayLocs frame_1_arrays a s ++ staticLocs frame_1_statics s) 601024 7293034) := by
  intro l q1 q2 q3 p e ha hc hk s m args below hf hfit hheap happ hpre
  obtain ⟨k, o, h1, h2, h3, rfl, hF⟩ := lw_comes l (lw_off (by assumption)) p e ha hc hk s m args below hf hfit hheap happ hpre
  exact ⟨k, _, h1, h2, h3, hL args s _, lw_frame hF⟩
theorem i_vc : Claimed_1_1 ∧ Claimed_1_2 := ⟨lw_limb limb_1_1 (fun args s t => by simp [limb_1_1, Cond.after, Cond.holds, Cond.value]), lw_limb limb_1_2 (fun args s t => Cond.after_iff.mpr (by
  first | (rw [show limb_1_2 = Cond.eq .result (.int 1) from rfl, Cond.eq_ints (x := 1) (y := 1) rfl rfl]; simp; done) | (simp [limb_1_2, Cond.value, Term.eval]; done)))⟩
