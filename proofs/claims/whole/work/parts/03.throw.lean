/-! Methods that throw: contracts tc_T (the method leaves by an exception of a class, its world as said), and calls of them. -/
def tc_QT (X : tc_X) (G : tc_G) (cls : String) (u : tc_S) (sz : Nat) : Array Value → State → Outcome → State → Prop := fun _ st oc t =>
  (∃ (x : Addr) (ce : Cell), oc = .threw x ∧ t.heap[x]? = some ce ∧ ce.vm.isStatics = false ∧ t.vm.findClass cls = some ce.cls) ∧ va_P G.1 X.2.1 (tc_w X G u) t.heap ∧ va_K G.1 X.2.1 (tc_ty G) t ∧ va_F (tc_A X G sz) st t
def tc_EL (free : Nat → Prop) (st t : State) (mc ms : Nat) : Prop := ∃ L : List Loc, st.WarmedH t.vm ∧ st.sameButNew ({ t with vm := st.vm } : State) L mc ms ∧ ∀ q ∈ L, free q.base
def tc_T (X : tc_X) (G : tc_G) (l : Launch) (y : MethodName) (ws : List Cond) (rm : Room) (mc ms : Nat) (av : List Value) (u u' : tc_S) (cls : String) : Prop :=
  ∀ sz : Nat, MetFree l y (headSpec ws rm) (tc_Pc X G av u sz) (fun _ _ _ _ _ => True) (fun a st o t => tc_QT X G cls u' sz a st o t ∧ tc_EL (tc_A X G sz) st t mc ms)
def tc_MT (X : tc_X) (G : tc_G) (below : List Frame) (cls : String) (u : tc_S) (args : Array Value) (s : State) (mc ms : Nat) : State → Prop := fun t =>
  ∃ o, t.status = .running ∧ Ended t below o ∧ tc_QT X G cls u s.heap.size args s o t ∧ tc_EL (tc_A X G s.heap.size) s t mc ms
section TT
variable {X : tc_X} {G : tc_G} {p : Program} {l : Launch} {e : Env} {R : Room} {s : State} {m : MethodId} {args : Array Value} {below : List Frame} {meth : Method} {c : Code}
variable {y : MethodName} {ws : List Cond} {rm : Room} {mc ms maxL : Nat} {u u' : tc_S} {cls : String} {bytes : ByteArray} {ret : Option FieldType}
theorem tc_thrown {av : List Value} {T : State} {locs : List Loc} {cells slots : Nat} {ig : Instr} {mk : MethodId} {g : JFrame} (hC : tc_T X G l y ws rm mc ms av u u' cls) (XT : Stand p l e R s m args below meth c T locs cells slots) (hg : g.method = m) (hsize : g.locals.size = c.maxLocals) (hdg : decode c.code g.pc = .ok (ig, 3))
    (hW : 2 * g.monitorRoom + (g.stack.map fun v => v.category).sum ≤ 8) (hn : T.methodNamed? y = some mk) (hrc : rm.cells = mc) (hrs : rm.slots = ms) (hfr : rm.frames + 1 ≤ R.frames) (hlo : 8 + (maxL + 11) + rm.locals ≤ R.locals)
    (hws : ∀ w ∈ ws, ∀ (a' : Array Value) (U : State), s.WarmedH U.vm → w.before a' U = true) (hcode : Cond.code y bytes maxL ret ∈ ws) (hini : (Cond.initialized y.cls).before args s = true) (hf : cells + mc ≤ R.cells ∧ slots + ms ≤ R.slots) (hP : tc_Pc X G av u T.heap.size av.toArray T) :
    ∃ (x : Addr) (T' t : State) (L : List Loc), Stand p l e R s m args below meth c T' (locs ++ L) (cells + mc) (slots + ms) ∧ T'.heap = t.heap ∧ T'.vm = t.vm ∧ tc_QT X G cls u' T.heap.size av.toArray (T.calling g mk av.toArray) (.threw x) t ∧ (∀ q ∈ L, tc_A X G T.heap.size q.base) ∧
      Steps p.tables e below (doInvoke e (T.setTop g) [] mk av.toArray).1 ((T'.setTop g).pushFrame (.throwing x)) := by
  have h2 := hws _ hcode av.toArray T XT.warmed
  obtain ⟨methY, cY, hmY, hcY, -, hlY, -⟩ := Cond.code_spec hn h2
  obtain ⟨kY, hkY, -⟩ := className_of_methodNamed hn
  have hini' : (Cond.initialized y.cls).before av.toArray T = true := word_at XT.warmed (Or.inl (by first | rfl | simp [Cond.onTables, Cond.keeps, Cond.steady])) hini
  have hinitY : kY.init = .initialized := Cond.initialized_spec (findClass_of_methodNamed hn) hkY hini'
  have h : At T g.method c below := by rw [hg]; exact XT.here
  have hlo2 : 2 * g.monitorRoom + (g.stack.map fun v => v.category).sum + (cY.maxLocals + 11) + rm.locals ≤ R.locals := by rw [hlY]; omega
  have happ : (headSpec ws rm).appliesLoose y e.platform (T.calling g mk av.toArray) = true :=
    Spec.appliesLoose_calling (g := g) h hdg hn hkY hinitY
      (XT.room_calling (g := g) (R' := (headSpec ws rm).room) hsize hmY hcY hfr hlo2 (by show cells + rm.cells ≤ _; rw [hrc]; exact hf.1) (by show slots + rm.slots ≤ _; rw [hrs]; exact hf.2))
      (atoms_intro fun w hw => hws w hw _ _ XT.warmed)
  obtain ⟨mid, hmid⟩ := h.above
  have hfrm : (T.setTop g).frames = (.java g :: mid) ++ below := by rw [State.frames_setTop' g h.top, hmid]; rfl
  obtain ⟨o, s₂, hsteps, -, hend, hq⟩ := Steps.callFree (hC T.heap.size) p XT.admits XT.cas XT.clock (acts := []) hfrm happ (tc_blind _ _ g mk hP) trivial
  rw [State.frames_setTop' g h.top, XT.tail] at hend
  have hq' : tc_QT X G cls u' T.heap.size av.toArray (T.calling g mk av.toArray) o s₂ ∧ tc_EL (tc_A X G T.heap.size) (T.calling g mk av.toArray) s₂ mc ms := hq
  obtain ⟨hq1, L, hW₂, hsame, hL⟩ := hq'
  obtain ⟨x, ce, ho, hce⟩ := hq1.1
  subst ho
  obtain ⟨T', X', hW', hs', eq⟩ := XT.outOfThrown hg hend hW₂ hsame
  have e1 : s₂.heap = T'.heap := by rw [eq]; exact Stand.throwing_heap T' g x
  have e2 : s₂.vm = T'.vm := by rw [eq]; exact Stand.throwing_vm T' g x
  exact ⟨x, T', s₂, L, X', e1.symm, e2.symm, hq1, hL, by rw [← eq]; exact hsteps⟩
/-- what is behind a call: the world that came back beside what is the walk's own -/
theorem tc_next {H H1 : Heap} {locs L : List Loc} {t : State} (hw : tc_W X G (tc_A X G s.heap.size) s H locs u) (hal : s.vm.Alike t.vm) (hP' : va_P G.1 X.2.1 (tc_w X G u') H1) (hK' : va_K G.1 X.2.1 (tc_ty G) t) (hz : H.size ≤ H1.size) (hkp : ∀ q : Nat, q < H.size → ¬ tc_A X G H.size q → H1[q]? = H[q]?) (hL : ∀ q ∈ L, tc_A X G H.size q.base) :
    tc_W X G (tc_A X G s.heap.size) s H1 (locs ++ L) u' := by
  obtain ⟨h1, h2, h3, h4, h5, h6, h7⟩ := hw
  refine ⟨hP', va_K.moved hal.symm hK', tc_D_of h3 (fun k hk => Or.inl ⟨k, hk, rfl⟩), ⟨Nat.le_trans h4.1 hz, fun q hq hA => ?_, fun q hq => ?_⟩, h5, h6, h7⟩
  · rw [hkp q (Nat.lt_of_lt_of_le hq h4.1) (fun z => hA (tc_A.up h4.1 q z))]; exact h4.2.1 q hq hA
  · rcases List.mem_append.mp hq with h | h
    · exact h4.2.2 q h
    · exact tc_A.up h4.1 _ (hL q h)
variable {cc : ByteArray} {nL index n pc : Nat} {Ts : List Cond} {own C : String} {As rest : List Value} {H : Heap} {locs : List Loc} {ls : Array Slot} {cells slots : Nat} {ret' : Option FieldType}
/-- a call that throws: the note lies over the frame, its arguments taken off -/
def tc_TR (X : tc_X) (G : tc_G) (p : Program) (l : Launch) (e : Env) (R : Room) (s : State) (m : MethodId) (args : Array Value) (below : List Frame) (meth : Method) (c : Code) (H : Heap) (locs : List Loc) (cells slots mc ms : Nat) (g : JFrame) (rest : List Value) (u' : tc_S) (cls : String) : Prop :=
  ∀ T : State, T.heap = H → Stand p l e R s m args below meth c T locs cells slots → ∃ (x : Addr) (ce : Cell) (T' : State) (L : List Loc), Stand p l e R s m args below meth c T' (locs ++ L) (cells + mc) (slots + ms) ∧ T'.heap[x]? = some ce ∧ ce.vm.isStatics = false ∧ T'.vm.findClass cls = some ce.cls ∧
    tc_W X G (tc_A X G s.heap.size) s T'.heap (locs ++ L) u' ∧ Steps p.tables e below (T.setTop g) ((T'.setTop { g with stack := rest }).pushFrame (.throwing x))
theorem tc_tr {av : List Value} {T : State} {vm₁ : Vm} {g : JFrame} {ig : Instr} {mk : MethodId} (hw : tc_W X G (tc_A X G s.heap.size) s H locs u) (hC : tc_T X G l y ws rm mc ms av u u' cls) (hT : T.heap = H) (X₁ : Stand p l e R s m args below meth c (T.setVm vm₁) locs cells slots)
    (hg : g.method = m) (hsize : g.locals.size = c.maxLocals) (hdg : decode c.code g.pc = .ok (ig, 3)) (hW : 2 * g.monitorRoom + (g.stack.map fun v => v.category).sum ≤ 8) (hn : (T.setVm vm₁).methodNamed? y = some mk) (hrc : rm.cells = mc) (hrs : rm.slots = ms) (hfr : rm.frames + 1 ≤ R.frames) (hlo : 8 + (maxL + 11) + rm.locals ≤ R.locals)
    (hws : ∀ w ∈ ws, ∀ (a' : Array Value) (U : State), s.WarmedH U.vm → w.before a' U = true) (hcode : Cond.code y bytes maxL ret ∈ ws) (hini : (Cond.initialized y.cls).before args s = true) (hf : cells + mc ≤ R.cells ∧ slots + ms ≤ R.slots) :
    ∃ (x : Addr) (ce : Cell) (T' : State) (L : List Loc), Stand p l e R s m args below meth c T' (locs ++ L) (cells + mc) (slots + ms) ∧ T'.heap[x]? = some ce ∧ ce.vm.isStatics = false ∧ T'.vm.findClass cls = some ce.cls ∧
      tc_W X G (tc_A X G s.heap.size) s T'.heap (locs ++ L) u' ∧ Steps p.tables e below (doInvoke e ((T.setVm vm₁).setTop g) [] mk av.toArray).1 ((T'.setTop g).pushFrame (.throwing x)) := by
  have hP : tc_Pc X G av u (T.setVm vm₁).heap.size av.toArray (T.setVm vm₁) := by
    rw [show (T.setVm vm₁).heap.size = H.size by rw [← hT]; rfl]
    exact tc_pre hw (T.setVm vm₁) hT X₁.warmed
  obtain ⟨x, T', t, L, X', e1, e2, ⟨⟨x', ce, ho, hce, hst, hfc⟩, hP', hK', hz, hkp⟩, hL, st⟩ := tc_thrown hC X₁ hg hsize hdg hW hn hrc hrs hfr hlo hws hcode hini hf hP
  cases ho
  have hh : (T.setVm vm₁).heap = H := hT
  have hh2 : ((T.setVm vm₁).calling g mk av.toArray).heap = H := hT
  rw [hh2] at hz hkp
  rw [hh] at hkp hL
  refine ⟨x, ce, T', L, X', by rw [e1]; exact hce, hst, by rw [e2]; exact hfc, ?_, st⟩
  rw [e1]
  exact tc_next hw (by rw [← e2]; exact X'.warmed.alike) hP' hK' hz hkp hL
theorem tc_trS (hw : tc_W X G (tc_A X G s.heap.size) s H locs u) (hx : p.tables.exec = Jvm.exec) (hb : c.code = cc) (hm : c.maxLocals = nL) (ho : s.vm.findClass own = some m.cls) (hC : tc_T X G l y ws rm mc ms As u u' cls)
    (cw : CallB R s args own index y bytes maxL ret' ws rm mc ms n ∧ (Cond.static y).before args s = true) (hn : As.length = n) (hsz : ls.size = nL) (hW : (rest.map fun v => v.category).sum ≤ 8) (d : decode cc pc = .ok (.invokestatic index, 3)) (hf : cells + mc ≤ R.cells ∧ slots + ms ≤ R.slots) :
    tc_TR X G p l e R s m args below meth c H locs cells slots mc ms (F0 m pc ls (As.reverse ++ rest)) rest u' cls := by
  obtain ⟨⟨hrc, hrs, hfr, hlo, hws, hcw, hcode, hini, hy, hlen, hl⟩, hstt⟩ := cw
  intro T hT XT
  obtain ⟨mk, hnamed⟩ := Cond.code_named hcode
  obtain ⟨methM, cM, hmethM, -, -, -, -, -, -, hsigM⟩ := Cond.code_spec hnamed hcode
  have hstatic : methM.isStatic = true := Cond.static_spec hnamed hmethM hstt
  obtain ⟨kP, hkP, -⟩ := className_of_methodNamed hnamed
  have hinitP : kP.init = .initialized := Cond.initialized_spec (findClass_of_methodNamed hnamed) hkP hini
  obtain ⟨vm₁, X₁, hstep₁⟩ := XT.invokestatic hx ho hl hnamed hmethM hstatic hkP hinitP hy (g := F0 m pc ls (As.reverse ++ rest)) rfl (argsL := As) (rest := rest) (hn.trans (hlen _ hsigM)) rfl (by rw [hb]; exact d)
  obtain ⟨x, ce, T', L, X', h1, h2, h3, h4, st⟩ := tc_tr (g := F0 m pc ls rest) hw hC hT X₁ rfl (hsz.trans hm.symm) (by rw [hb]; exact d) (lv_room hW) (X₁.named hnamed) hrc hrs hfr hlo hws hcw hini hf
  exact ⟨x, ce, T', L, X', h1, h2, h3, h4, hstep₁ _ fun acts => by rw [doInvoke_state]; exact st⟩
theorem tc_trV {b ci N : Nat} {fl : List Nat} {Tt : u_T} (hw : tc_W X G (tc_A X G s.heap.size) s H locs u) (hx : p.tables.exec = Jvm.exec) (hb : c.code = cc) (hm : c.maxLocals = nL) (ho : s.vm.findClass own = some m.cls) (hk0 : X.1[b]? = some (4, ci, fl)) (hc0 : X.2.1[ci]? = some (C, Tt, N)) (hC : tc_T X G l y ws rm mc ms (.ref (tc_ad G b) :: As) u u' cls)
    (cw : CallW R s args own C index y bytes maxL ret' ws rm mc ms n) (hn : As.length = n) (hsz : ls.size = nL) (hW : (rest.map fun v => v.category).sum ≤ 8) (d : decode cc pc = .ok (.invokevirtual index, 3)) (hf : cells + mc ≤ R.cells ∧ slots + ms ≤ R.slots) :
    tc_TR X G p l e R s m args below meth c H locs cells slots mc ms (F0 m pc ls (As.reverse ++ .ref (tc_ad G b) :: rest)) rest u' cls := by
  obtain ⟨⟨hrc, hrs, hfr, hlo, hws, hcw, hcode, hini, hy, hlen, hl⟩, hinst, hsel⟩ := cw
  obtain ⟨cellB, hcB, hoB, hclB⟩ := tc_recv hw hk0 hc0
  intro T hT XT
  obtain ⟨mk, methM, hnamed, hmethM, hstM, habM⟩ := Cond.instanceMethod_spec hinst
  obtain ⟨methM', cM, hmethM', -, -, -, -, -, -, hsigM⟩ := Cond.code_spec hnamed hcode
  cases hmethM.symm.trans hmethM'
  obtain ⟨c2, r2, m2, q1, q2, q3, q4, kP, hkP, hkPi⟩ := Cond.selects_spec hsel
  cases hclB.symm.trans q1
  cases (State.methodFound?_of_named hnamed hy).symm.trans q2
  cases hnamed.symm.trans q3
  have hselP : selectMethod e.platform s.vm cellB.cls mk = .method mk := by rw [Launch.admits_selectMethod XT.admits]; exact q4
  obtain ⟨vm₁, X₁, hstep₁⟩ := XT.invokevirtual hx ho hl hnamed hmethM hstM hkP hkPi hy (a := tc_ad G b) (cell := cellB) (by rw [hT]; exact hcB)
    (fun z h => by rw [h] at hoB; cases hoB) hselP hmethM habM hkP hkPi (g := F0 m pc ls (As.reverse ++ .ref (tc_ad G b) :: rest)) rfl (argsL := As) (rest := rest) (hn.trans (hlen _ hsigM)) rfl (by rw [hb]; exact d)
  obtain ⟨x, ce, T', L, X', h1, h2, h3, h4, st⟩ := tc_tr (g := F0 m pc ls rest) hw hC hT X₁ rfl (hsz.trans hm.symm) (by rw [hb]; exact d) (lv_room hW) (X₁.named hnamed) hrc hrs hfr hlo hws hcw hini hf
  exact ⟨x, ce, T', L, X', h1, h2, h3, h4, hstep₁ _ fun acts => by rw [doInvoke_state]; exact st⟩
theorem tc_trOut {st0 : List Value} {mc' ms' : Nat} (hr : tc_TR X G p l e R s m args below meth c H locs cells slots mc ms (F0 m pc ls st0) rest u' cls) (hq0 : c.exceptionTable.toList.map (fun h => (h.startPc, h.endPc, h.handlerPc, h.catchType)) = []) (hk : meth.locks = false) (hc : cells + mc ≤ mc') (hs : slots + ms ≤ ms') :
    W p l e R s m args below meth c H locs cells slots (tc_MT X G below cls u' args s mc' ms') (F0 m pc ls st0) := by
  intro T hT XT
  obtain ⟨x, ce, T', L, X', h1, h2, h3, hw', st⟩ := hr T hT XT
  have htab : c.exceptionTable.toList = [] := List.map_eq_nil_iff.mp hq0
  obtain ⟨st2, hrun, hended, hWU, hsame⟩ := X'.leaveThrown x (g := { F0 m pc ls st0 with stack := rest }) rfl rfl rfl (fun y hy => by rw [htab] at hy; cases hy) hk
  exact ⟨_, st.trans st2, .threw x, hrun, hended, ⟨⟨x, ce, rfl, h1, h2, h3⟩, hw'.1, va_K.moved X'.warmed.alike hw'.2.1, hw'.2.2.2.1.F rfl⟩, locs ++ L, hWU, hsame.mono hc hs, hw'.2.2.2.1.2.2⟩
end TT
section TW
variable {X : tc_X} {G : tc_G} {p : Program} {l : Launch} {e : Env} {R : Room} {s : State} {m : MethodId} {args : Array Value} {below : List Frame} {meth : Method} {c : Code}
variable {cc : ByteArray} {nL : Nat} {Ts : List Cond} {own : String} {ret : Option FieldType} {cells slots : Nat} {u u' : tc_S} {pc : Nat} {lv : List (Option Value)} {rest : List Value}
variable {b ci N index maxL mc ms mc' ms' n : Nat} {fl : List Nat} {C cls : String} {T : u_T} {y : MethodName} {ws : List Cond} {rm : Room} {bytes : ByteArray} {ret' : Option FieldType}
/-- a call that throws, out of a method without handlers -/
theorem tv_thrS (As : List Value) (hC : tc_T X G l y ws rm mc ms As u u' cls) (cw : (∀ w ∈ Ts, w.before args s = true) → (CallB R s args own index y bytes maxL ret' ws rm mc ms n ∧ (Cond.static y).before args s = true)) (hn : As.length = n) (hW : (rest.map fun v => v.category).sum ≤ 8) (d : decode cc pc = .ok (.invokestatic index, 3)) (hf : cells + mc ≤ R.cells ∧ slots + ms ≤ R.slots) (hc : cells + mc ≤ mc') (hs : slots + ms ≤ ms') :
    tc_V X G p l e R s m args below meth c cc nL Ts own ret [] (tc_MT X G below cls u' args s mc' ms') cells slots u pc lv (As.reverse ++ rest) :=
  fun hx hb hm ho ht _ hk hq0 _ _ _ hl hw => tc_trOut (tc_trS hw hx hb hm ho hC (cw ht) hn hl.1 hW d hf) hq0 hk hc hs
theorem tv_thrV (As : List Value) (hk0 : X.1[b]? = some (4, ci, fl)) (hc0 : X.2.1[ci]? = some (C, T, N)) (hC : tc_T X G l y ws rm mc ms (.ref (tc_ad G b) :: As) u u' cls) (cw : (∀ w ∈ Ts, w.before args s = true) → CallW R s args own C index y bytes maxL ret' ws rm mc ms n) (hn : As.length = n) (hW : (rest.map fun v => v.category).sum ≤ 8) (d : decode cc pc = .ok (.invokevirtual index, 3)) (hf : cells + mc ≤ R.cells ∧ slots + ms ≤ R.slots) (hc : cells + mc ≤ mc') (hs : slots + ms ≤ ms') :
    tc_V X G p l e R s m args below meth c cc nL Ts own ret [] (tc_MT X G below cls u' args s mc' ms') cells slots u pc lv (As.reverse ++ .ref (tc_ad G b) :: rest) :=
  fun hx hb hm ho ht _ hk hq0 _ _ _ hl hw => tc_trOut (tc_trV hw hx hb hm ho hk0 hc0 hC (cw ht) hn hl.1 hW d hf) hq0 hk hc hs
end TW
/-- a contract of a method that throws, out of a walk -/
theorem tc_ofT {X : tc_X} {G : tc_G} {l : Launch} {y : MethodName} {ws ws' : List Cond} {rm : Room} {mc ms nL : Nat} {cc : ByteArray} {ret : Option FieldType} {av : List Value} {u u' : tc_S} {cls : String} (lv : List (Option Value))
    (hy : plainName y.cls = true) (hw : ws = Cond.code y cc nL ret :: ws') (hn : (lg_sl av).length ≤ nL) (hlv : lv_args 0 av = tc_as 0 lv)
    (body : ∀ (p : Program) (e : Env) (s : State) (m : MethodId) (args : Array Value) (below : List Frame) (meth : Method) (c : Code), tc_V X G p l e rm s m args below meth c cc nL ws y.cls ret [] (tc_MT X G below cls u' args s mc ms) 0 0 u 0 lv []) : tc_T X G l y ws rm mc ms av u u' cls := by
  intro sz
  refine MetFree.of_bodyS (code := cc) (maxLocals := nL) (ret := ret) hy ?_ ?_
  · intro args s m h hn
    obtain ⟨meth, c, h1, h2, h3, h4, h5, h6, -, -⟩ := Cond.code_spec hn (atoms_spec (ws := ws) h _ (by rw [hw]; exact List.mem_cons_self))
    exact ⟨meth, c, h1, h2, h3, h4, h5, h6⟩
  · intro p e s m args below meth c s₁ B hml hv _
    obtain ⟨rfl, hsz, hP, hK, hD, hZ, hN⟩ := hv
    subst hsz
    have hl := lv_entry av hn
    rw [hlv] at hl
    have hh0 : s₁.heap = s.heap := by rw [B.state]; rfl
    have key := body p e s m av.toArray below meth c B.exec B.bytes hml (findClass_of_methodNamed B.named) (atoms_spec (ws := ws) B.pre) B.returns B.notSynchronized (tc_noH B (by rw [hw]; exact List.mem_cons_self)) _ s.heap [] hl
      ⟨hP, hK, tc_D_of hD (fun k hk => Or.inl ⟨k, hk, rfl⟩), va_S.rf, fun q h => Or.inr h, hZ, hN⟩
    rw [← lg_entry_eq] at key
    obtain ⟨t, a1, o, b1, b2, b3⟩ := key s₁ hh0 (Stand.of_body B)
    exact ⟨t, o, a1, b1, b2, b3⟩
/-- a word of a throw: among the method's own; or carried apart -/
def tc_okw (X : tc_X) (ws : List Cond) (w : Cond) : Bool := decide (w ∈ ws) || match w with
  | .declares z => decide (z ∈ X.2.2.2.2.1)
  | .laysStatic a b c => decide ((a, b, c) ∈ X.2.2.2.2.2.1)
  | .isRef (.static a b c) => decide ((a, b, c) ∈ X.2.2.2.2.2.1)
  | .castable a b => decide ((a, b, true) ∈ X.2.2.2.2.2.2)
  | _ => false
theorem tc_okw_at {X : tc_X} {A : Nat → Prop} {s : State} {args : Array Value} {ws : List Cond} (hts : ∀ w ∈ ws, w.before args s = true) (hZ : tc_Z X A s s.heap) (hN : tc_N X s) {w : Cond} (h : tc_okw X ws w = true) : w.before args s = true := by
  unfold tc_okw at h
  rw [Bool.or_eq_true] at h
  rcases h with h | h
  · exact hts w (of_decide_eq_true h)
  · split at h
    · exact va_Nw.use rfl (hN.2.1 _ (of_decide_eq_true h))
    · exact (hZ.2 _ (of_decide_eq_true h)).lays args
    · exact (hZ.2 _ (of_decide_eq_true h)).isRef args
    · obtain ⟨x, y, h1, h2, h3⟩ := hN.2.2 _ (of_decide_eq_true h)
      simp [Cond.before, Cond.holds, Cond.value, h1, h2, h3]
    · cases h
/-- 'if (!holds) throw new E();', where it doesn't hold -/
theorem tc_require {X : tc_X} {G : tc_G} {l : Launch} {y : MethodName} {ws ws' : List Cond} {rm : Room} {cc : ByteArray} {u : tc_S} {cls : String} {names : List String} {off : Int} {tgt idx ic : Nat}
    (hy : plainName y.cls = true) (hw : ws = Cond.code y cc 1 none :: ws') (d0 : decode cc 0 = .ok (.iload_n 0, 1)) (d1 : decode cc 1 = .ok (.ifCond .ne off, 3)) (ht : ((1 : Nat) : Int) + off = (tgt : Int)) (d4 : decode cc 4 = .ok (.new idx, 3)) (d7 : decode cc 7 = .ok (.dup, 1)) (d8 : decode cc 8 = .ok (.invokespecial ic, 3)) (d11 : decode cc 11 = .ok (.athrow, 1))
    (hcl : Cond.classLink y.cls idx cls ∈ ws) (hini : Cond.initialized cls ∈ ws) (hins : Cond.instantiable cls 6 ∈ ws) (hat : ∀ w ∈ Bundle.ownAtoms0 y.cls ic cls names, tc_okw X ws w = true) (hfit : Bundle.fit cls = true) (hnames : ∀ n ∈ names, Bundle.fit n = true) (htr : l.stackTraces = false)
    (hRf : names.length + 3 < rm.frames) (hRl : 13 * (names.length + 1) + 42 ≤ rm.locals) (hRc : 1 ≤ rm.cells) (hRs : 6 ≤ rm.slots) : tc_T X G l y ws rm 1 6 [.int 0] u u cls := by
  intro sz
  refine MetFree.of_bodyS (code := cc) (maxLocals := 1) (ret := none) hy ?_ ?_
  · intro args s m h hn
    obtain ⟨meth, c, h1, h2, h3, h4, h5, h6, -, -⟩ := Cond.code_spec hn (atoms_spec (ws := ws) h _ (by rw [hw]; exact List.mem_cons_self))
    exact ⟨meth, c, h1, h2, h3, h4, h5, h6⟩
  · intro p e s m args below meth c s₁ B hml hv _
    obtain ⟨rfl, hsz, hP, hK, hD, hZ, hN⟩ := hv
    subst hsz
    have hx := B.exec
    have hb := B.bytes
    have hts := atoms_spec (ws := ws) B.pre
    have hown : s.vm.findClass y.cls = some m.cls := findClass_of_methodNamed B.named
    have hk := B.notSynchronized
    have htab : c.exceptionTable.toList = [] := List.map_eq_nil_iff.mp (tc_noH B (by rw [hw]; exact List.mem_cons_self))
    have hl := lv_entry [.int 0] (n := 1) (by decide)
    have hh0 : s₁.heap = s.heap := by rw [B.state]; rfl
    have key : W p l e rm s m ([Value.int 0]).toArray below meth c s.heap [] 0 0 (tc_MT X G below cls u ([Value.int 0]).toArray s 1 6) (entryFrame m ([Value.int 0]).toArray 1) := by
      rw [lg_entry_eq]
      generalize (lg_sl [Value.int 0] ++ List.replicate (1 - (lg_sl [Value.int 0]).length) Slot.unset).toArray = ls at hl ⊢
      refine lv_iload_n hx hb d0 rfl (lv_at hl 0 rfl) ?_
      refine lv_if_ne hx hb d1 ht (fun h => absurd rfl h) (fun _ => ?_)
      refine W.newc hx hb hown (hts _ hcl) (hts _ hins) (hts _ hini) rfl d4 (by omega) (by omega) (fun cC kC hfC hkC hord hn6 => ?_)
      refine lv_dup hx hb d7 rfl ?_
      intro T hT XT
      have htr' : e.platform.stackTraces = false := (show e.platform.stackTraces = l.stackTraces by rw [XT.admits.platform]).trans htr
      obtain ⟨U, hsteps, hrun, hend, hW, hsame, ce, hce, hO⟩ := XT.ctorThrow0 hx htr' (own := y.cls) (cls := cls) (names := names) (ic := ic) hown hfit hnames (fun w hw => tc_okw_at hts hZ hN (hat w hw)) (fun x hx => by cases hx) hfC hkC
        (a := s.heap.size) (by rw [hT]; simp [freshCell]) (Nat.le_refl _) (g := F0 m 8 ls [.ref s.heap.size, .ref s.heap.size]) rfl (hl.1.trans hml.symm) rfl rfl (rest := []) rfl (by rw [hb]; exact d8) (by rw [hb]; exact d11) (fun x hx => by rw [htab] at hx; cases hx) hRf (by show 2 * 0 + (1 + 0) + _ ≤ rm.locals; omega) hk
      have hold : ∀ q : Nat, q < s.heap.size → U.heap[q]? = s.heap[q]? := by
        intro q hq
        obtain ⟨-, -, -, -, -, h6⟩ := hsame
        obtain ⟨c9, e1, e2, e3, e4⟩ := h6 q _ (Array.getElem?_eq_getElem hq)
        have hs9 : c9.slots = (s.heap[q]).slots := Array.ext_getElem? fun i => e4 i (fun hm => by cases hm)
        rw [hs9] at e2
        have e5 : U.heap[q]? = some c9 := e1
        rw [e5, e2, Array.getElem?_eq_getElem hq]
      have hz : s.heap.size ≤ U.heap.size := hsame.2.1
      refine ⟨U, hsteps, .threw s.heap.size, hrun, hend, ⟨⟨s.heap.size, ce, rfl, hce, by rw [hO.vm]; rfl, ?_⟩, ?_, va_K.moved hW.alike hK, hz, fun q hq _ => hold q hq⟩, [], hW, hsame, fun q hq => by cases hq⟩
      · rw [hW.alike.findClass]; exact hO.cls
      · exact hP.kept (fun k q hq => hold q.1 ((hP k q hq).lt))
    obtain ⟨t, a1, o, b1, b2, b3⟩ := key s₁ hh0 (Stand.of_body B)
    exact ⟨t, o, a1, b1, b2, b3⟩
