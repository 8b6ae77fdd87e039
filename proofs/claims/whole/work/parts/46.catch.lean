/-! a call that throws, caught here -/
def tc_hp (X : tc_X) (Ts : List Cond) (own cls : String) (pc h : Nat) : List (Nat × Nat × Nat × Nat) → Prop
  | [] => False
  | r :: t => (r.1 ≤ pc ∧ pc < r.2.1 ∧ r.2.2.2 ≠ 0) ∧ ∃ name : String, Cond.classLink own r.2.2.2 name ∈ Ts ∧ ((h = r.2.2.1 ∧ (cls, name, true) ∈ X.2.2.2.2.2.2) ∨ ((cls, name, false) ∈ X.2.2.2.2.2.2 ∧ tc_hp X Ts own cls pc h t))
theorem tc_hp1 {X : tc_X} {Ts : List Cond} {own cls : String} {pc a b h ct : Nat} {t : List (Nat × Nat × Nat × Nat)} (name : String) (ha : a ≤ pc) (hb : pc < b) (hc : ct ≠ 0) (hl : Cond.classLink own ct name ∈ Ts) (hx : (cls, name, true) ∈ X.2.2.2.2.2.2) : tc_hp X Ts own cls pc h ((a, b, h, ct) :: t) := ⟨⟨ha, hb, hc⟩, name, hl, Or.inl ⟨rfl, hx⟩⟩
theorem tc_hp2 {X : tc_X} {Ts : List Cond} {own cls : String} {pc a b h h' ct : Nat} {t : List (Nat × Nat × Nat × Nat)} (name : String) (ha : a ≤ pc) (hb : pc < b) (hc : ct ≠ 0) (hl : Cond.classLink own ct name ∈ Ts) (hx : (cls, name, false) ∈ X.2.2.2.2.2.2) (k : tc_hp X Ts own cls pc h t) : tc_hp X Ts own cls pc h ((a, b, h', ct) :: t) := ⟨⟨ha, hb, hc⟩, name, hl, Or.inr ⟨hx, k⟩⟩
theorem tc_hp_at {X : tc_X} {Ts : List Cond} {own cls : String} {pc h : Nat} {pl : Platform} {s : State} {args : Array Value} {d thrown : ClassId} (hpl : pl.magicAccessors = ({} : Platform).magicAccessors) (hown : s.vm.findClass own = some d) (hts : ∀ w ∈ Ts, w.before args s = true) (hN : ∀ q ∈ X.2.2.2.2.2.2, tc_cst s q) (hcl : s.vm.findClass cls = some thrown) :
    ∀ (hh : List (Nat × Nat × Nat × Nat)) (tl : List ExceptionTableEntry), tl.map (fun h => (h.startPc, h.endPc, h.handlerPc, h.catchType)) = hh → tc_hp X Ts own cls pc h hh → ∃ (pre : List ExceptionTableEntry) (x : ExceptionTableEntry) (rest : List ExceptionTableEntry), tl = pre ++ x :: rest ∧ (∀ y ∈ pre, RowPassed pl s d pc thrown y) ∧ covers x pc = true ∧ RowCatches pl s d thrown x ∧ x.handlerPc = h
  | [], _, _, hp => hp.elim
  | r :: t, [], hm, _ => by cases hm
  | r :: t, y :: ys, hm, hp => by
    rw [List.map_cons, List.cons.injEq] at hm
    obtain ⟨hm1, hm2⟩ := hm
    subst hm1
    obtain ⟨⟨c1, c2, c3⟩, name, hl, hor⟩ := hp
    have hcov : covers y pc = true := by
      show (decide (y.startPc ≤ pc) && decide (pc < y.endPc)) = true
      rw [decide_eq_true c1, decide_eq_true c2]; rfl
    obtain ⟨c', hc', hcl'⟩ := Cond.classLink_spec hown (hts _ hl) pl hpl
    rcases hor with ⟨e, hx⟩ | ⟨hx, hrest⟩
    · obtain ⟨a, b, h1, h2, h3⟩ := hN _ hx
      cases Option.some.inj (h1.symm.trans hcl)
      cases Option.some.inj (h2.symm.trans hc')
      exact ⟨[], y, ys, rfl, fun _ h => absurd h List.not_mem_nil, hcov, Or.inr ⟨c3, _, hcl', h3⟩, e.symm⟩
    · obtain ⟨a, b, h1, h2, h3⟩ := hN _ hx
      cases Option.some.inj (h1.symm.trans hcl)
      cases Option.some.inj (h2.symm.trans hc')
      obtain ⟨pre, x, rest, e1, e2, e3, e4, e5⟩ := tc_hp_at hpl hown hts hN hcl t ys hm2 hrest
      refine ⟨y :: pre, x, rest, by rw [e1]; rfl, fun z hz => ?_, e3, e4, e5⟩
      rcases List.mem_cons.mp hz with e | e
      · subst e; exact Or.inr ⟨c3, _, hcl', h3⟩
      · exact e2 z e
section TX
variable {X : tc_X} {G : tc_G} {p : Program} {l : Launch} {e : Env} {R : Room} {s : State} {m : MethodId} {args : Array Value} {below : List Frame} {meth : Method} {c : Code}
variable {cc : ByteArray} {nL : Nat} {Ts : List Cond} {own : String} {ret : Option FieldType} {hh : List (Nat × Nat × Nat × Nat)} {Q : State → Prop} {cells slots : Nat} {u u' : tc_S} {pc : Nat} {lv : List (Option Value)} {rest : List Value}
theorem tv_catV {b ci N index maxL mc ms n h : Nat} {fl : List Nat} {C cls : String} {T : u_T} {y : MethodName} {ws : List Cond} {rm : Room} {bytes : ByteArray} {ret' : Option FieldType} (As : List Value) (hk0 : X.1[b]? = some (4, ci, fl)) (hc0 : X.2.1[ci]? = some (C, T, N)) (hC : tc_T X G l y ws rm mc ms (.ref (tc_ad G b) :: As) u u' cls) (cw : (∀ w ∈ Ts, w.before args s = true) → CallW R s args own C index y bytes maxL ret' ws rm mc ms n) (hn : As.length = n) (hW : (rest.map fun v => v.category).sum ≤ 8) (d : decode cc pc = .ok (.invokevirtual index, 3)) (hf : cells + mc ≤ R.cells ∧ slots + ms ≤ R.slots)
    (hp : tc_hp X Ts own cls pc h hh) (kk : ∀ a : Nat, tc_V X G p l e R s m args below meth c cc nL Ts own ret hh Q (cells + mc) (slots + ms) u' h lv [.ref a]) : tc_V X G p l e R s m args below meth c cc nL Ts own ret hh Q cells slots u pc lv (As.reverse ++ .ref (tc_ad G b) :: rest) := by
  intro hx hb hm ho ht hr hk hq0 ls H locs hl hw
  have tr := tc_trV (e := e) (below := below) (meth := meth) hw hx hb hm ho hk0 hc0 hC (cw ht) hn hl.1 hW d hf
  intro T hT XT
  obtain ⟨x, ce, T', L, X', h1, h2, h3, hw', st⟩ := tr T hT XT
  have hcl : s.vm.findClass cls = some ce.cls := by rw [X'.warmed.alike.findClass] at h3; exact h3
  have hpl : e.platform.magicAccessors = ({} : Platform).magicAccessors := by rw [XT.admits.platform]
  obtain ⟨pre, ent, suf, e1, e2, e3, e4, e5⟩ := tc_hp_at hpl ho ht hw.2.2.2.2.2.2.2.2 hcl hh c.exceptionTable.toList hq0 hp
  obtain ⟨vm', XV, st2⟩ := X'.thenCaughtThrough x (g := F0 m pc ls rest) rfl st h1 h2 (by obtain ⟨k9, h9, -⟩ := Vm.findClass_spec hcl; exact ⟨k9, h9⟩) pre ent suf e1 e2 e3 e4
  rw [e5] at st2
  obtain ⟨t, a1, b1⟩ := kk x hx hb hm ho ht hr hk hq0 ls T'.heap (locs ++ L) hl hw' (T'.setVm vm') rfl XV
  exact ⟨t, st2.trans a1, b1⟩
end TX
/-- a contract of a method with handlers, out of a walk -/
theorem tw_ofVW {G : tc_G} {l : Launch} {y : MethodName} {own : String} {rm : Room} {mc ms nL : Nat} {cc : ByteArray} {ret : Option FieldType} {hh : List (Nat × Nat × Nat × Nat)} {av : List Value} {u : tc_S} {K : Outcome → tc_S → Prop} (lv : List (Option Value))
    (hy : plainName y.cls = true) (ho : y.cls = own) (hn : (lg_sl av).length ≤ nL) (hlv : lv_args 0 av = tc_as 0 lv)
    (body : ∀ (p : Program) (e : Env) (s : State) (m : MethodId) (args : Array Value) (below : List Frame) (meth : Method) (c : Code), tc_V tcx G p l e rm s m args below meth c cc nL tw own ret hh (MQ below (tc_Qc tcx G K s.heap.size) args s mc ms (tc_A tcx G s.heap.size)) 0 0 u 0 lv []) : tc_C tcx G l y (Cond.codeWith y cc nL ret hh :: tw) rm mc ms av u K := by
  subst ho
  intro sz
  refine MetFree.of_bodyS (code := cc) (maxLocals := nL) (ret := ret) hy ?_ ?_
  · intro args s m h hn
    obtain ⟨m9, meth, c, hn9, h1, h2, h3, h4, -, h5, h6, -⟩ := Cond.codeWith_spec (atoms_spec (ws := Cond.codeWith y cc nL ret hh :: tw) h _ List.mem_cons_self)
    cases hn.symm.trans hn9
    exact ⟨meth, c, h1, h2, h3, h4, h5, h6⟩
  · intro p e s m args below meth c s₁ B hml hv _
    obtain ⟨rfl, hsz, hP, hK, hD, hZ, hN⟩ := hv
    subst hsz
    have hl := lv_entry av hn
    rw [hlv] at hl
    have hh0 : s₁.heap = s.heap := by rw [B.state]; rfl
    have hat := atoms_spec (ws := Cond.codeWith y cc nL ret hh :: tw) B.pre
    have htab : c.exceptionTable.toList.map (fun h => (h.startPc, h.endPc, h.handlerPc, h.catchType)) = hh := by
      obtain ⟨m9, meth9, c9, hn9, h1, h2, -, -, h6, -⟩ := Cond.codeWith_spec (hat _ List.mem_cons_self)
      cases Option.some.inj (hn9.symm.trans B.named)
      cases Option.some.inj (h1.symm.trans B.method)
      cases Option.some.inj (h2.symm.trans (Stand.of_body B).code)
      exact h6
    have key := body p e s m av.toArray below meth c B.exec B.bytes hml (findClass_of_methodNamed B.named) (fun w hw => hat w (List.mem_cons_of_mem _ hw)) B.returns B.notSynchronized htab _ s.heap [] hl
      ⟨hP, hK, tc_D_of hD (fun k hk => Or.inl ⟨k, hk, rfl⟩), va_S.rf, fun q h => Or.inr h, hZ, hN⟩
    rw [← lg_entry_eq] at key
    obtain ⟨t, a1, o, b1, b2, b3⟩ := key s₁ hh0 (Stand.of_body B)
    exact ⟨t, o, a1, b1, b2, ⟨b3.1, b3.2⟩⟩
