/-! building: cells are made one behind the other, from an address on -/
def ty_e (G : tc_G) (r : tc_R) : va_E := match r.1 with
  | 0 => .inl (G.2.1.1, r.2.1, .inl fun _ => 0)
  | 1 => .inl (G.2.1.2.1, r.2.1, .inl fun _ => 0)
  | 2 => .inl (G.2.1.2.2.1, r.2.1, .inr (.inl fun _ => 0))
  | 3 => .inl (G.2.1.2.2.2, r.2.1, .inr (.inr (.inr (.inr fun j => some (tc_ad G (r.2.2.headD 0 + j))))))
  | _ => .inr (r.2.1, r.2.2.map fun f => if f = 0 then .int 0 else if f = 1 then .null else .ref (tc_ad G (f - 2)))
def ty_w (G : tc_G) (tb : List tc_R) : va_W := tb.mapIdx fun k r => (tc_ad G k, ty_e G r)
def ty_v (G : tc_G) (f : Nat) : Value := if f = 0 then .int 0 else if f = 1 then .null else .ref (tc_ad G (f - 2))
def ty_P (G : tc_G) (b : Nat) (tb : List tc_R) (H : Heap) : Prop := va_P G.1 tw_cl (ty_w G tb) H ∧ H.size = b + tb.length
/-- what does not change -/
def ty_F (G : tc_G) (b : Nat) (U : State) : Prop := va_K G.1 tw_cl (tc_ty G) U ∧ (∀ k, tc_ad G k = b + k) ∧ tc_N tcx U ∧ (Cond.arrayOver (.array .int)).before #[] U = true
theorem ty_w_at {G : tc_G} {tb : List tc_R} {k : Nat} {r : tc_R} (h : tb[k]? = some r) : (ty_w G tb)[k]? = some (tc_ad G k, ty_e G r) := by
  unfold ty_w; rw [List.getElem?_mapIdx, h]; rfl
theorem ty_w_push {G : tc_G} {tb : List tc_R} {r : tc_R} : ty_w G (tb ++ [r]) = ty_w G tb ++ [(tc_ad G tb.length, ty_e G r)] := by
  unfold ty_w; rw [List.mapIdx_concat]
theorem ty_D {G : tc_G} {b : Nat} (hG : ∀ k, tc_ad G k = b + k) (tb : List tc_R) : va_D (fun q => b ≤ q) (ty_w G tb) := by
  have key : ∀ (i : Nat) (q : Nat × va_E), (ty_w G tb)[i]? = some q → q.1 = b + i := by
    intro i q hq
    unfold ty_w at hq
    rw [List.getElem?_mapIdx] at hq
    cases hr : tb[i]? with
    | none => rw [hr] at hq; cases hq
    | some r => rw [hr] at hq; cases hq; exact hG i
  exact ⟨fun i j p q hi hj e => by rw [key i p hi, key j q hj] at e; omega, fun k q hk => by show b ≤ q.1; rw [key k q hk]; omega⟩
theorem ty_push {G : tc_G} {b : Nat} {tb : List tc_R} {H H1 : Heap} {r : tc_R} (hP : ty_P G b tb H) (hG : ∀ k, tc_ad G k = b + k) (z1 : H1.size = H.size + 1) (o1 : ∀ q : Nat, q < H.size → H1[q]? = H[q]?) (he : va_at G.1 tw_cl (H.size, ty_e G r) H1) : ty_P G b (tb ++ [r]) H1 := by
  refine ⟨?_, by rw [z1, hP.2, List.length_append]; rfl⟩
  rw [ty_w_push, hG, ← hP.2]
  refine (hP.1.kept (fun k x hx => o1 x.1 ((hP.1 k x hx).lt))).app (fun k x hx => ?_)
  have hz : k < 1 := (List.getElem?_eq_some_iff.mp hx).1
  rw [show k = 0 by omega] at hx
  cases hx
  exact he
theorem ty_S {b : Nat} {H0 H H1 : Heap} {locs : List Loc} (hS : va_S (fun q => b ≤ q) H0 H locs) (z1 : H.size ≤ H1.size) (o1 : ∀ q : Nat, q < H.size → H1[q]? = H[q]?) : va_S (fun q => b ≤ q) H0 H1 locs :=
  ⟨Nat.le_trans hS.1 z1, fun x h1 h2 => (o1 x (Nat.lt_of_lt_of_le h1 hS.1)).trans (hS.2.1 x h1 h2), hS.2.2⟩
def tc_Y (G : tc_G) (b : Nat) (p : Program) (l : Launch) (e : Env) (R : Room) (s : State) (m : MethodId) (args : Array Value) (below : List Frame) (meth : Method) (c : Code)
    (cc : ByteArray) (nL : Nat) (own nmn : String) (ret : Option FieldType) (Q : State → Prop) (cells slots : Nat) (tb : List tc_R) (pc : Nat) (lv : List (Option Value)) (st : List Value) : Prop :=
  p.tables.exec = Jvm.exec → c.code = cc → c.maxLocals = nL → s.vm.findClass own = some m.cls → (∀ w ∈ tw, w.before args s = true) → meth.sig.returnType = ret → meth.locks = false → meth.name = nmn → ty_F G b s →
  ∀ (ls : Array Slot) (H : Heap) (locs : List Loc), lv_has ls nL (tc_as 0 lv) → ty_P G b tb H → va_S (fun q => b ≤ q) s.heap H locs → W p l e R s m args below meth c H locs cells slots Q (F0 m pc ls st)
section TY
variable {G : tc_G} {b : Nat} {p : Program} {l : Launch} {e : Env} {R : Room} {s : State} {m : MethodId} {args : Array Value} {below : List Frame} {meth : Method} {c : Code}
variable {cc : ByteArray} {nL : Nat} {own nmn : String} {ret : Option FieldType} {Q : State → Prop} {cells slots : Nat} {tb : List tc_R} {pc : Nat} {lv : List (Option Value)} {rest : List Value}
theorem ty_iconst {n : Int} {v : Int32} (d : decode cc pc = .ok (.iconst n, 1)) (hv : Int32.ofInt n = v) (k : tc_Y G b p l e R s m args below meth c cc nL own nmn ret Q cells slots tb (pc + 1) lv (.int v :: rest)) : tc_Y G b p l e R s m args below meth c cc nL own nmn ret Q cells slots tb pc lv rest :=
  fun hx hb hm ho ht hr hk hnm hF ls H locs hl hP hS => lv_iconst hx hb d hv (k hx hb hm ho ht hr hk hnm hF ls H locs hl hP hS)
theorem ty_bipush {n : Int} {v : Int32} (d : decode cc pc = .ok (.bipush n, 2)) (hv : (Int8.ofInt n).toInt32 = v) (k : tc_Y G b p l e R s m args below meth c cc nL own nmn ret Q cells slots tb (pc + 2) lv (.int v :: rest)) : tc_Y G b p l e R s m args below meth c cc nL own nmn ret Q cells slots tb pc lv rest :=
  fun hx hb hm ho ht hr hk hnm hF ls H locs hl hP hS => lv_bipush hx hb d hv (k hx hb hm ho ht hr hk hnm hF ls H locs hl hP hS)
theorem ty_sipush {n : Int} {v : Int32} (d : decode cc pc = .ok (.sipush n, 3)) (hv : (Int16.ofInt n).toInt32 = v) (k : tc_Y G b p l e R s m args below meth c cc nL own nmn ret Q cells slots tb (pc + 3) lv (.int v :: rest)) : tc_Y G b p l e R s m args below meth c cc nL own nmn ret Q cells slots tb pc lv rest :=
  fun hx hb hm ho ht hr hk hnm hF ls H locs hl hP hS => lv_sipush hx hb d hv (k hx hb hm ho ht hr hk hnm hF ls H locs hl hP hS)
theorem ty_dup {va : Value} (d : decode cc pc = .ok (.dup, 1)) (hva : va.category = 1) (k : tc_Y G b p l e R s m args below meth c cc nL own nmn ret Q cells slots tb (pc + 1) lv (va :: va :: rest)) : tc_Y G b p l e R s m args below meth c cc nL own nmn ret Q cells slots tb pc lv (va :: rest) :=
  fun hx hb hm ho ht hr hk hnm hF ls H locs hl hP hS => lv_dup hx hb d hva (k hx hb hm ho ht hr hk hnm hF ls H locs hl hP hS)
theorem ty_aload_n {k : Fin 4} {x : Nat} (d : decode cc pc = .ok (.aload_n k, 1)) (hi : lv[(k : Nat)]? = some (some (.ref x))) (kk : tc_Y G b p l e R s m args below meth c cc nL own nmn ret Q cells slots tb (pc + 1) lv (.ref x :: rest)) : tc_Y G b p l e R s m args below meth c cc nL own nmn ret Q cells slots tb pc lv rest :=
  fun hx hb hm ho ht hr hk hnm hF ls H locs hl hP hS => lv_aload_n hx hb d rfl (tc_ld hl hi rfl) (kk hx hb hm ho ht hr hk hnm hF ls H locs hl hP hS)
theorem ty_astore_g {k : Fin 4} {x : Nat} (d : decode cc pc = .ok (.astore_n k, 1)) (hn : (k : Nat) < lv.length) (hL : lv.length = nL) (kk : tc_Y G b p l e R s m args below meth c cc nL own nmn ret Q cells slots tb (pc + 1) (lv.set (k : Nat) (some (.ref x))) rest) : tc_Y G b p l e R s m args below meth c cc nL own nmn ret Q cells slots tb pc lv (.ref x :: rest) :=
  fun hx hb hm ho ht hr hk hnm hF ls H locs hl hP hS => lv_astore_n hx hb d rfl hl (by omega) rfl (fun ls' hl' => kk hx hb hm ho ht hr hk hnm hF ls' H locs (tc_st hn hl') hP hS)
theorem ty_new {C : String} {T : u_T} {N ci index : Nat} (ty : Nat → FieldType) {fl : List Nat} (hin : ∀ w ∈ u_ws C T N, w ∈ tw) (hty : ∀ k, k < N → parseFieldDescriptor (T k).2.2.1 = some (ty k)) (hcl : Cond.classLink own index C ∈ tw) (hinst : Cond.instantiable C N ∈ tw) (hini : Cond.initialized C ∈ tw) (hc : tw_cl[ci]? = some (C, T, N))
    (hfs : ∀ (G : tc_G) (j : Nat), j < N → defaultValue (ty j) = vp_V (fl.map (ty_v G)) j) (d : decode cc pc = .ok (.new index, 3)) (hf : cells + 1 ≤ R.cells ∧ slots + N ≤ R.slots) (kk : tc_Y G b p l e R s m args below meth c cc nL own nmn ret Q (cells + 1) (slots + N) (tb ++ [(5, ci, fl)]) (pc + 3) lv (.ref (tc_ad G tb.length) :: rest)) :
    tc_Y G b p l e R s m args below meth c cc nL own nmn ret Q cells slots tb pc lv rest := by
  intro hx hb hm ho ht hr hk hnm hF ls H locs hl hP hS
  have hKn := hF.1.1 ci _ hc
  refine W.newcK hx hb ho (ht _ hcl) (ht _ hinst) (ht _ hini) rfl d hf.1 hf.2 hKn.2.1 rfl fun H1 kC hkC e1 z1 o1 => ?_
  have key := kk hx hb hm ho ht hr hk hnm hF ls H1 locs hl (ty_push (r := (5, ci, fl)) hP hF.2.1 z1 o1 ⟨_, hc, (u_born ty ht hin hKn hkC e1 hty).to (hfs G)⟩) (ty_S hS (by omega) o1)
  rw [hF.2.1, ← hP.2] at key
  exact key
theorem ty_newa {atype : ArrayType} {ty : FieldType} {n : Int32} {kd N ti : Nat} (hty : newarray.typeOf atype = ty) (harr : Cond.arrayClass ty ∈ tw) (hn : ¬ n < 0) (hN : n.toNatClampNeg = N) (hbytes : N * componentBytes ty ≤ 536870912) (hne : ∀ C, ty ≠ .object C)
    (hcell : ∀ (G : tc_G) (cA : ClassId), (tc_ty G)[ti]? = some (cA, ty) → ∃ a0 : vp_A, ty_e G (kd, N, []) = .inl (cA, a0) ∧ vp_cell cA a0 = arrV cA N (fun _ => defaultValue ty)) (hti : ∀ G : tc_G, ∃ cA : ClassId, (tc_ty G)[ti]? = some (cA, ty)) (d : decode cc pc = .ok (.newarray atype, 2)) (hf : cells + 1 ≤ R.cells ∧ slots + N ≤ R.slots)
    (kk : tc_Y G b p l e R s m args below meth c cc nL own nmn ret Q (cells + 1) (slots + N) (tb ++ [(kd, N, [])]) (pc + 2) lv (.ref (tc_ad G tb.length) :: rest)) : tc_Y G b p l e R s m args below meth c cc nL own nmn ret Q cells slots tb pc lv (.int n :: rest) := by
  subst hty
  intro hx hb hm ho ht hr hk hnm hF ls H locs hl hP hS
  refine va_newaK hx hb (ht _ harr) rfl d rfl hn hN hbytes hf.1 hf.2 rfl fun H1 cA e1 z1 o1 hAr hNm => ?_
  obtain ⟨cB, hcB⟩ := hti G
  obtain ⟨a0, ha1, ha2⟩ := hcell G cB hcB
  have hcc : s.vm.findClass ("[" ++ (newarray.typeOf atype).toString) = some cB := by
    have h2 := (hF.1.2 ti _ hcB).2
    cases atype <;> exact h2
  cases Option.some.inj (hcc.symm.trans hNm)
  have key := kk hx hb hm ho ht hr hk hnm hF ls H1 locs hl (ty_push (r := (kd, N, [])) hP hF.2.1 z1 o1 (by
    rw [ha1]
    show H1[H.size]? = some (vp_cell cA a0)
    rw [ha2]; exact e1)) (ty_S hS (by omega) o1)
  rw [hF.2.1, ← hP.2] at key
  exact key
end TY
theorem ty_set {G : tc_G} {tb : List tc_R} {k j ci f : Nat} {fl : List Nat} (hk : tb[k]? = some (5, ci, fl)) : (ty_w G tb).set k (tc_ad G k, .inr (ci, (fl.map (ty_v G)).set j (ty_v G f))) = ty_w G (tb.set k (5, ci, fl.set j f)) := by
  apply List.ext_getElem?
  intro i
  have hlt := (List.getElem?_eq_some_iff.mp hk).1
  have hl : (ty_w G tb).length = tb.length := by unfold ty_w; rw [List.length_mapIdx]
  by_cases e : k = i
  · subst e
    rw [List.getElem?_set_self (by omega), ty_w_at (r := (5, ci, fl.set j f)) (by rw [List.getElem?_set_self hlt])]
    show _ = some (tc_ad G k, Sum.inr (ci, (fl.set j f).map (ty_v G)))
    rw [List.map_set]
  · rw [List.getElem?_set_ne e]
    unfold ty_w
    rw [List.getElem?_mapIdx, List.getElem?_mapIdx, List.getElem?_set_ne e]
section TY2
variable {G : tc_G} {b : Nat} {p : Program} {l : Launch} {e : Env} {R : Room} {s : State} {m : MethodId} {args : Array Value} {below : List Frame} {meth : Method} {c : Code}
variable {cc : ByteArray} {nL : Nat} {own nmn : String} {ret : Option FieldType} {Q : State → Prop} {cells slots : Nat} {tb : List tc_R} {pc : Nat} {lv : List (Option Value)} {rest : List Value}
/-- a field is set in a constructor of its own class -/
theorem ty_put {C : String} {T : u_T} {N ci index k j f : Nat} {ty : FieldType} {fl : List Nat} (ty0 : Nat → FieldType) (hk0 : tb[k]? = some (5, ci, fl)) (hc : tw_cl[ci]? = some (C, T, N)) (hin : ∀ w ∈ u_ws C T N, w ∈ tw) (hty : ∀ k, k < N → parseFieldDescriptor (T k).2.2.1 = some (ty0 k)) (hnm0 : ∀ a, a < N → ∀ b, b < N → a ≠ b → (T a).2.1 ≠ (T b).2.1)
    (hj : j < N) (hlink : Cond.fieldLink own index (T j).1 (T j).2.1 (T j).2.2.1 ∈ tw) (hdecl : (T j).1 = own) (hinit : nmn = "<init>") (hd : parseFieldDescriptor (T j).2.2.1 = some ty) (hv : ∀ G : tc_G, narrow ty (ty_v G f) = ty_v G f ∧ fits ty (ty_v G f) = true) (hfl : j < fl.length) (d : decode cc pc = .ok (.putfield index, 3))
    (kk : tc_Y G b p l e R s m args below meth c cc nL own nmn ret Q cells slots (tb.set k (5, ci, fl.set j f)) (pc + 3) lv rest) : tc_Y G b p l e R s m args below meth c cc nL own nmn ret Q cells slots tb pc lv (ty_v G f :: .ref (tc_ad G k) :: rest) := by
  intro hx hb hm ho ht hr hk hnm hF ls H locs hl hP hS0
  have hK := hF.1
  have he : (ty_w G tb)[k]? = some (tc_ad G k, .inr (ci, fl.map (ty_v G))) := ty_w_at hk0
  have hD := ty_D hF.2.1 tb
  have hap := va_apart (own := own) ht hin ty0 hty hnm0 hK hc
  obtain ⟨r, h1, cell, q1, q2, q3, q4⟩ := hP.1 k _ he
  have hr1 : r = (C, T, N) := Option.some.inj (h1.symm.trans hc)
  subst hr1
  obtain ⟨hS, hfc, kC, hkC, hkind⟩ := hK.1 ci _ hc
  obtain ⟨cf, kf, fi, fd, hi, hsl⟩ := hS j hj
  have hlay := ht _ (hin _ (u_in_lay hj))
  have hst := (u_facts hfc hkC (u_lays ht hin hj) hi).1
  have fin : ∀ (H' : Heap) (locs' : List Loc), H'[tc_ad G k]? = some (cell.setSlot fd.slot (ty_v G f)) → H'.size = H.size → (∀ q : Nat, q ≠ tc_ad G k → H'[q]? = H[q]?) → (∀ q ∈ locs', b ≤ q.base) → W p l e R s m args below meth c H' (locs ++ locs') cells slots Q (F0 m (pc + 3) ls rest) := by
    intro H' locs' e1 e2 e3 e4
    rw [hsl] at e1
    refine kk hx hb hm ho ht hr hk hnm hF ls H' (locs ++ locs') hl ⟨?_, by rw [e2, hP.2, List.length_set]⟩ ⟨by rw [e2]; exact hS0.1, fun q h1 h2 => ?_, fun q hq => ?_⟩
    · rw [← ty_set hk0]
      exact hP.1.set hD he ⟨_, hc, t_OB.to (V := updV (vp_V (fl.map (ty_v G))) j (ty_v G f)) ⟨_, e1, q2, q3, t_set q4 hap hj (ty_v G f)⟩ (fun i _ => vp_updV_set (by rw [List.length_map]; exact hfl) (ty_v G f) i)⟩ e3
    · rw [e3 q (fun z => h2 (by rw [z, hF.2.1]; omega))]; exact hS0.2.1 q h1 h2
    · rcases List.mem_append.mp hq with h | h
      · exact hS0.2.2 q h
      · exact e4 q h
  have lb : ∀ q ∈ [(⟨tc_ad G k, fd.slot⟩ : Loc)], b ≤ q.base := fun q hq => by rw [List.mem_singleton.mp hq]; show b ≤ tc_ad G k; rw [hF.2.1]; omega
  unfold u_lay at hlay
  by_cases hfin : (T j).2.2.2 = true
  · rw [if_pos hfin] at hlay
    have hcf : m.cls = cf := by
      obtain ⟨_, _, c', _, _, _, -, -, hf', -, -, -, hown2, -⟩ := Cond.laysFinal_spec hlay
      have e1 : c' = cf := by have := hi.symm.trans hf'; simp at this; exact this.1.symm
      rw [hdecl] at hown2
      rw [← e1]; exact Option.some.inj (ho.symm.trans hown2)
    have h6 := u_fits hfc hkC hkind (Or.inr hlay) hi hd (hv G).1 (hv G).2
    exact W.putFinK hx hb ho (ht _ hlink) hi hst hcf (hnm.trans hinit) (by rw [q2]; exact h6) q1 q3 (by rw [hsl]; exact k2_hasslot (q4 j hj)) rfl rfl d fun H' e1 e2 e3 => fin H' _ e1 e2 e3 lb
  · rw [if_neg hfin] at hlay
    have h6 := u_store hfc hkC hkind hlay hi hd (hv G).1 (hv G).2
    exact W.putK hx hb (f := fd) ⟨ho, ht _ hlink, ⟨_, _, _, hi⟩, hst⟩ (by rw [q2]; exact h6) q1 q3 (by rw [hsl]; exact k2_hasslot (q4 j hj)) rfl rfl d fun H' e1 e2 e3 => fin H' _ e1 e2 e3 lb
end TY2
theorem ty_P_of {G : tc_G} {b : Nat} {tb : List tc_R} {H : Heap} (hG : ∀ k, tc_ad G k = b + k) (h : ∀ k r, tb[k]? = some r → va_at G.1 tw_cl (b + k, ty_e G r) H) (hz : H.size = b + tb.length) : ty_P G b tb H := by
  refine ⟨fun k q hk => ?_, hz⟩
  unfold ty_w at hk
  rw [List.getElem?_mapIdx] at hk
  cases hr : tb[k]? with
  | none => rw [hr] at hk; cases hk
  | some r =>
    rw [hr] at hk; cases hk
    show va_at _ _ (tc_ad G k, _) H
    rw [hG]; exact h k r hr
theorem ty_P_at {G : tc_G} {b k : Nat} {tb : List tc_R} {H : Heap} {r : tc_R} (hP : ty_P G b tb H) (hG : ∀ k, tc_ad G k = b + k) (h : tb[k]? = some r) : va_at G.1 tw_cl (b + k, ty_e G r) H := by
  have := hP.1 k _ (ty_w_at h); rw [hG] at this; exact this
def ty_Pc (G : tc_G) (b : Nat) (tb : List tc_R) (av : List Value) : Array Value → State → Prop := va_Pc av (fun U => ty_F G b U ∧ ty_P G b tb U.heap)
def ty_Qc (G : tc_G) (b : Nat) (tb : List tc_R) : Array Value → State → Outcome → State → Prop := fun _ st oc t => oc = .returned none ∧ ty_P G b tb t.heap ∧ va_F (fun q => b ≤ q) st t
def ty_C (G : tc_G) (b : Nat) (l : Launch) (y : MethodName) (ws : List Cond) (rm : Room) (mc ms : Nat) (av : List Value) (tb tb' : List tc_R) : Prop := Met l y ws rm (ty_Pc G b tb av) (ty_Qc G b tb') mc ms (fun q => b ≤ q)
theorem ty_ofY {G : tc_G} {b : Nat} {l : Launch} {y : MethodName} {own : String} {rm : Room} {mc ms nL : Nat} {cc : ByteArray} {av : List Value} {tb tb' : List tc_R} (lv : List (Option Value)) (hy : plainName y.cls = true) (ho : y.cls = own) (hn : (lg_sl av).length ≤ nL) (hlv : lv_args 0 av = tc_as 0 lv)
    (body : ∀ (p : Program) (e : Env) (s : State) (m : MethodId) (args : Array Value) (below : List Frame) (meth : Method) (c : Code), tc_Y G b p l e rm s m args below meth c cc nL own y.name none (MQ below (ty_Qc G b tb') args s mc ms (fun q => b ≤ q)) 0 0 tb 0 lv []) : ty_C G b l y (Cond.code y cc nL none :: tw) rm mc ms av tb tb' := by
  subst ho
  refine Met.ofW (cc := cc) (maxL := nL) (ret := none) hy rfl ?_
  intro p e s m args below meth c s₁ B hml hv
  obtain ⟨rfl, hF, hP⟩ := hv
  have hl := lv_entry av hn
  rw [lg_entry_eq]
  rw [hlv] at hl
  exact body p e s m _ below meth c B.exec B.bytes hml (findClass_of_methodNamed B.named) (fun w hw => atoms_spec (ws := Cond.code y cc nL none :: tw) B.pre w (List.mem_cons_of_mem _ hw)) B.returns B.notSynchronized (name_of_methodNamed B.named B.method).1 hF _ s.heap [] hl hP va_S.rf
theorem ty_F.warm {G : tc_G} {b : Nat} {s U : State} (hW : s.WarmedH U.vm) (h : ty_F G b s) : ty_F G b U := ⟨va_K.moved hW.alike h.1, h.2.1, h.2.2.1.warm hW, over_moved hW.alike h.2.2.2⟩
theorem ty_blind {G : tc_G} {b : Nat} {tb : List tc_R} {av : List Value} : FrameBlind (ty_Pc G b tb av) := by
  intro a U g mk q
  obtain ⟨q0, hF, hP⟩ := q
  exact ⟨q0, ⟨va_K.moved (u := U) (U := U.calling g mk a) (Vm.Alike.refl U.vm) hF.1, hF.2.1, tc_N.same (u := U) (U := U.calling g mk a) rfl hF.2.2.1, over_moved (u := U) (E := U.calling g mk a) (Vm.Alike.refl U.vm) hF.2.2.2⟩, hP⟩
section TY3
variable {G : tc_G} {b : Nat} {p : Program} {l : Launch} {e : Env} {R : Room} {s : State} {m : MethodId} {args : Array Value} {below : List Frame} {meth : Method} {c : Code}
variable {cc : ByteArray} {nL : Nat} {own nmn : String} {ret : Option FieldType} {Q : State → Prop} {cells slots : Nat} {tb : List tc_R} {pc : Nat} {lv : List (Option Value)} {rest : List Value}
theorem ty_vret {mc ms : Nat} (d : decode cc pc = .ok (.return_, 1)) (hret : ret = none) (hc : cells ≤ mc) (hs : slots ≤ ms) : tc_Y G b p l e R s m args below meth c cc nL own nmn ret (MQ below (ty_Qc G b tb) args s mc ms (fun q => b ≤ q)) cells slots tb pc lv [] :=
  fun hx hb hm ho ht hr hk hnm hF ls H locs hl hP hS => W.widen hc hs (W.vret hx hb (hr.trans hret) (fun t h1 hW => ⟨rfl, by rw [h1]; exact hP, hS.F h1⟩) hS.2.2 d (hlocks := hk))
theorem ty_run {mc ms : Nat} {tb' : List tc_R} {a : Array Value} {H : Heap} {locs : List Loc} {ls : Array Slot} {st0 : List Value} (hS : va_S (fun q => b ≤ q) s.heap H locs) (hr : va_Run p l e R s m args below meth c H locs cells slots mc ms (F0 m pc ls st0) rest (ty_Qc G b tb' a) (fun q => b ≤ q))
    (kk : ∀ (H1 : Heap) (locs1 : List Loc), ty_P G b tb' H1 → va_S (fun q => b ≤ q) s.heap H1 locs1 → W p l e R s m args below meth c H1 locs1 (cells + mc) (slots + ms) Q (F0 m (pc + 3) ls rest)) : W p l e R s m args below meth c H locs cells slots Q (F0 m pc ls st0) := by
  intro T hT XT
  obtain ⟨v, st₀, t, T', L, h0, X', hL, e1, e2, ⟨hv, hP', hz, hkp⟩, st⟩ := hr T hT XT
  cases hv
  rw [h0] at hz hkp
  obtain ⟨t2, a1, b1⟩ := kk T'.heap (locs ++ L) (by rw [e1]; exact hP') ⟨Nat.le_trans hS.1 (by rw [e1]; exact hz), fun q hq hA => by rw [e1, hkp q (Nat.lt_of_lt_of_le hq hS.1) hA]; exact hS.2.1 q hq hA, fun q hq => (List.mem_append.mp hq).elim (hS.2.2 q) (hL q)⟩ T' rfl X'
  exact ⟨t2, st t2 a1, b1⟩
theorem ty_obj {idx x : Nat} (hlink : Cond.methodLink own idx Lib.objectInit ∈ tw) (hinst : Cond.instanceMethod Lib.objectInit ∈ tw) (hcode : Cond.code Lib.objectInit ⟨#[0xb1]⟩ 1 none ∈ tw) (hW : (rest.map fun v => v.category).sum ≤ 8) (d : decode cc pc = .ok (.invokespecial idx, 3)) (hR : 1 ≤ R.frames ∧ 20 ≤ R.locals)
    (kk : tc_Y G b p l e R s m args below meth c cc nL own nmn ret Q cells slots tb (pc + 3) lv rest) : tc_Y G b p l e R s m args below meth c cc nL own nmn ret Q cells slots tb pc lv (.ref x :: rest) := by
  intro hx hb hm ho ht hr hk hnm hF ls H locs hl hP hS
  exact W.objInit hx hb ho (ht _ hlink) (ht _ hinst) (ht _ hcode) rfl (hl.1.trans hm.symm) rfl d hR.1 (by show 2 * 0 + _ + 12 ≤ _; omega) (kk hx hb hm ho ht hr hk hnm hF ls H locs hl hP hS)
theorem ty_callI {y : MethodName} {bytes : ByteArray} {maxL mc ms index x : Nat} {ws : List Cond} {rm : Room} {tb' : List tc_R} (hC : ty_C G b l y ws rm mc ms [.ref x] tb tb') (cw : (∀ w ∈ tw, w.before args s = true) → (CallB R s args own index y bytes maxL none ws rm mc ms 0 ∧ y.name = "<init>" ∧ (Cond.instanceMethod y).before args s = true)) (hW : (rest.map fun v => v.category).sum ≤ 8) (d : decode cc pc = .ok (.invokespecial index, 3)) (hf : cells + mc ≤ R.cells ∧ slots + ms ≤ R.slots)
    (kk : tc_Y G b p l e R s m args below meth c cc nL own nmn ret Q (cells + mc) (slots + ms) tb' (pc + 3) lv rest) : tc_Y G b p l e R s m args below meth c cc nL own nmn ret Q cells slots tb pc lv (.ref x :: rest) := by
  intro hx hb hm ho ht hr hk hnm hF ls H locs hl hP hS
  exact ty_run hS (va_runI (As := []) (rest := rest) ⟨hx, hb, hm, ho, ht⟩ hC (cw ht) ⟨ty_blind, fun U hU hW => ⟨rfl, hF.warm hW, by rw [hU]; exact hP⟩⟩ rfl rfl hl.1 rfl (lv_room hW) d hf) (fun H1 locs1 hP1 hS1 => kk hx hb hm ho ht hr hk hnm hF ls H1 locs1 hl hP1 hS1)
theorem ty_callN {y : MethodName} {host : String} {bytes : ByteArray} {maxL mc ms index x : Nat} {ws : List Cond} {rm : Room} {tb' : List tc_R} (hC : ty_C G b l y ws rm mc ms [.ref x] tb tb') (cw : (∀ w ∈ tw, w.before args s = true) → tc_N tcx s → (va_CN R s args own index y host bytes maxL none ws rm mc ms 0 ∧ y.name = "<init>" ∧ (Cond.instanceMethod y).before args s = true)) (hW : (rest.map fun v => v.category).sum ≤ 8) (d : decode cc pc = .ok (.invokespecial index, 3)) (hf : cells + mc ≤ R.cells ∧ slots + ms ≤ R.slots)
    (kk : tc_Y G b p l e R s m args below meth c cc nL own nmn ret Q (cells + mc) (slots + ms) tb' (pc + 3) lv rest) : tc_Y G b p l e R s m args below meth c cc nL own nmn ret Q cells slots tb pc lv (.ref x :: rest) := by
  intro hx hb hm ho ht hr hk hnm hF ls H locs hl hP hS
  exact ty_run hS (va_runIN (As := []) (rest := rest) ⟨hx, hb, hm, ho, ht⟩ hC (cw ht hF.2.2.1) ⟨ty_blind, fun U hU hW => ⟨rfl, hF.warm hW, by rw [hU]; exact hP⟩⟩ rfl rfl hl.1 rfl (lv_room hW) d hf) (fun H1 locs1 hP1 hS1 => kk hx hb hm ho ht hr hk hnm hF ls H1 locs1 hl hP1 hS1)
end TY3
theorem ty_outer (c : ClassId) (N h0 : Nat) : ∀ i : Nat, Jvm.Free.Multi.outerC c N h0 i = arrV c N (fun j => va_rf (if j < i then some (h0 + 1 + j) else none))
  | 0 => by
    show ({ cls := c, slots := Array.replicate N .null, vm := .none } : Cell) = _
    rw [arrV_new]
    refine congrArg (arrV c N) (funext fun j => ?_)
    simp [va_rf]
  | i + 1 => by
    show (Jvm.Free.Multi.outerC c N h0 i).setSlot i (.ref (h0 + 1 + i)) = _
    rw [ty_outer c N h0 i, arrV_store]
    refine congrArg (arrV c N) (funext fun j => ?_)
    by_cases e : j = i
    · subst e
      simp [updV, va_rf]
    · by_cases h : j < i
      · simp [updV, e, h, Nat.lt_succ_of_lt h]
      · simp [updV, e, h, show ¬ j < i + 1 by omega]
theorem ty_arrV {c : ClassId} {N : Nat} {f g : Nat → Value} (h : ∀ j, j < N → f j = g j) : arrV c N f = arrV c N g := by
  unfold arrV
  congr 1
  apply Array.ext
  · simp
  · intro i h1 h2
    simp at h1
    simp [h i h1]
section TY4
variable {G : tc_G} {b : Nat} {p : Program} {l : Launch} {e : Env} {R : Room} {s : State} {m : MethodId} {args : Array Value} {below : List Frame} {meth : Method} {c : Code}
variable {cc : ByteArray} {nL : Nat} {own nmn : String} {ret : Option FieldType} {Q : State → Prop} {cells slots : Nat} {tb : List tc_R} {pc : Nat} {lv : List (Option Value)} {rest : List Value}
theorem ty_mna {n k : Int32} {N K index : Nat} (hcl : Cond.classLink own index "[[I" ∈ tw) (harr : Cond.arrayClass .int ∈ tw) (hn : ¬ n < 0) (hk : ¬ k < 0) (hN : n.toNatClampNeg = N) (hK : k.toNatClampNeg = K) (hb1 : N * 4 ≤ 536870912) (hb2 : K * 4 ≤ 536870912) (d : decode cc pc = .ok (.multianewarray index 2, 4)) (hf : cells + (1 + N) ≤ R.cells ∧ slots + (N + N * K) ≤ R.slots)
    (kk : tc_Y G b p l e R s m args below meth c cc nL own nmn ret Q (cells + 1 + N) (slots + N + N * K) (tb ++ (3, N, [tb.length + 1]) :: List.replicate N (0, K, [])) (pc + 4) lv (.ref (tc_ad G tb.length) :: rest)) : tc_Y G b p l e R s m args below meth c cc nL own nmn ret Q cells slots tb pc lv (.int k :: .int n :: rest) := by
  subst hN
  subst hK
  intro hx hb hm ho ht hr hk0 hnm hF ls H locs hl hP hS T hT Xs
  have hG := hF.2.1
  have ht0 : ("[" ++ (FieldType.array FieldType.int).toString) = "[[I" := by decide +kernel
  obtain ⟨vm₁, cA, comp, -, fA, fC, hO, -, X', step⟩ := Xs.multianewarray2F (ty := .int) hx ho (by rw [ht0]; exact ht _ hcl) hF.2.2.2 (ht _ harr) (g := F0 m pc ls (.int k :: .int n :: rest)) rfl (by rw [hb]; exact d) rfl hn hk hb1 hb2 (by omega) (by decide +kernel) (by decide +kernel) hf.1 hf.2
  have eA : cA = G.2.1.2.2.2 := by
    have h2 := (hF.1.2 3 (G.2.1.2.2.2, .array .int) rfl).2
    exact Option.some.inj (fA.symm.trans h2)
  have eC : comp = G.2.1.1 := by
    have h2 := (hF.1.2 0 (G.2.1.1, .int) rfl).2
    have e0 : (FieldType.array FieldType.int).toString = "[" ++ FieldType.int.toString := by decide +kernel
    rw [e0] at fC
    exact Option.some.inj (fC.symm.trans h2)
  subst eA
  subst eC
  generalize hFl : Jvm.Free.Multi.fill (T.setVm vm₁) G.2.1.2.2.2 G.2.1.1 n.toNatClampNeg k.toNatClampNeg (defaultValue FieldType.int) n.toNatClampNeg = F at X' step
  have hTh : (T.setVm vm₁).heap = H := hT
  obtain ⟨f1, f2, -, -⟩ := Jvm.Free.Multi.fill_facts (T.setVm vm₁) G.2.1.2.2.2 G.2.1.1 n.toNatClampNeg k.toNatClampNeg (defaultValue FieldType.int) n.toNatClampNeg
  rw [hFl, hTh] at f1 f2
  have hold : ∀ x : Nat, x < H.size → F.heap[x]? = H[x]? := fun x hx => by
    have := Jvm.Free.Multi.fill_old (T.setVm vm₁) G.2.1.2.2.2 G.2.1.1 n.toNatClampNeg k.toNatClampNeg (defaultValue FieldType.int) (a := x) (by rw [hTh]; exact hx) n.toNatClampNeg
    rw [hFl, hTh] at this
    exact this
  have hrow : ∀ j : Nat, j < n.toNatClampNeg → F.heap[H.size + 1 + j]? = some (arrV G.2.1.1 k.toNatClampNeg (fun _ => .int 0)) := fun j hj => by
    have := Jvm.Free.Multi.fill_inner (T.setVm vm₁) G.2.1.2.2.2 G.2.1.1 n.toNatClampNeg k.toNatClampNeg (defaultValue FieldType.int) n.toNatClampNeg j hj
    rw [hFl, hTh] at this
    rw [this]
    show some ({ cls := _, slots := Array.replicate _ _, vm := .none } : Cell) = _
    rw [arrV_new]; rfl
  rw [ty_outer] at f2
  have hP1 : ty_P G b (tb ++ (3, n.toNatClampNeg, [tb.length + 1]) :: List.replicate n.toNatClampNeg (0, k.toNatClampNeg, [])) F.heap := by
    refine ty_P_of hG (fun i r hi => ?_) (by rw [f1, hP.2, List.length_append, List.length_cons, List.length_replicate]; omega)
    by_cases h1 : i < tb.length
    · rw [List.getElem?_append_left h1] at hi
      exact (ty_P_at hP hG hi).kept (hold _ (by have := hP.2; show b + i < H.size; omega))
    · rw [List.getElem?_append_right (by omega)] at hi
      by_cases h2 : i = tb.length
      · subst h2
        rw [Nat.sub_self] at hi
        cases hi
        show F.heap[b + tb.length]? = some (vp_cell _ _)
        rw [← hP.2, f2, vp_cell_q]
        refine congrArg some (ty_arrV fun j hj => ?_)
        rw [if_pos hj, hG, hP.2]
        show va_rf _ = va_rf (some (b + (tb.length + 1 + j)))
        congr 2
        omega
      · rw [show i - tb.length = (i - tb.length - 1) + 1 by omega, List.getElem?_cons_succ, List.getElem?_replicate] at hi
        by_cases h3 : i - tb.length - 1 < n.toNatClampNeg
        · rw [if_pos h3] at hi
          cases hi
          show F.heap[b + i]? = some (vp_cell _ _)
          have := hrow _ h3
          rw [show H.size + 1 + (i - tb.length - 1) = b + i by rw [hP.2]; omega] at this
          exact this
        · rw [if_neg h3] at hi; cases hi
  have key := kk hx hb hm ho ht hr hk0 hnm hF ls F.heap locs hl hP1 (ty_S hS (by rw [f1]; omega) hold)
  rw [hG, ← hP.2] at key
  obtain ⟨t, a1, b1⟩ := key F rfl X'
  rw [hT] at step
  exact ⟨t, step t a1, b1⟩
end TY4
section TY5
variable {G : tc_G} {b : Nat} {p : Program} {l : Launch} {e : Env} {R : Room} {s : State} {m : MethodId} {args : Array Value} {below : List Frame} {meth : Method} {c : Code}
variable {cc : ByteArray} {nL : Nat} {own nmn : String} {ret : Option FieldType} {Q : State → Prop} {cells slots : Nat} {tb : List tc_R} {pc : Nat} {lv : List (Option Value)} {rest : List Value}
/-! the same rows, the table behind them given by name -/
theorem ty_newE {C : String} {T : u_T} {N ci index : Nat} (ty : Nat → FieldType) {fl : List Nat} (tb' : List tc_R) (k : Nat) (hk : tb.length = k) (he : tb ++ [(5, ci, fl)] = tb') (hin : ∀ w ∈ u_ws C T N, w ∈ tw) (hty : ∀ k, k < N → parseFieldDescriptor (T k).2.2.1 = some (ty k)) (hcl : Cond.classLink own index C ∈ tw) (hinst : Cond.instantiable C N ∈ tw) (hini : Cond.initialized C ∈ tw) (hc : tw_cl[ci]? = some (C, T, N))
    (hfs : ∀ (G : tc_G) (j : Nat), j < N → defaultValue (ty j) = vp_V (fl.map (ty_v G)) j) (d : decode cc pc = .ok (.new index, 3)) (hf : cells + 1 ≤ R.cells ∧ slots + N ≤ R.slots) (kk : tc_Y G b p l e R s m args below meth c cc nL own nmn ret Q (cells + 1) (slots + N) tb' (pc + 3) lv (.ref (tc_ad G k) :: rest)) :
    tc_Y G b p l e R s m args below meth c cc nL own nmn ret Q cells slots tb pc lv rest := by
  subst hk; subst he
  exact ty_new ty hin hty hcl hinst hini hc hfs d hf kk
theorem ty_newI {n : Int32} {N : Nat} (tb' : List tc_R) (k : Nat) (hk : tb.length = k) (he : tb ++ [(0, N, [])] = tb') (harr : Cond.arrayClass .int ∈ tw) (hn : ¬ n < 0) (hN : n.toNatClampNeg = N) (hbytes : N * componentBytes .int ≤ 536870912) (d : decode cc pc = .ok (.newarray .int, 2)) (hf : cells + 1 ≤ R.cells ∧ slots + N ≤ R.slots)
    (kk : tc_Y G b p l e R s m args below meth c cc nL own nmn ret Q (cells + 1) (slots + N) tb' (pc + 2) lv (.ref (tc_ad G k) :: rest)) : tc_Y G b p l e R s m args below meth c cc nL own nmn ret Q cells slots tb pc lv (.int n :: rest) := by
  subst hk; subst he
  exact ty_newa (ti := 0) (kd := 0) (ty := .int) rfl harr hn hN hbytes (fun C h => by cases h) (fun G cA h => by cases h; exact ⟨_, rfl, rfl⟩) (fun G => ⟨_, rfl⟩) d hf kk
theorem ty_newZ {n : Int32} {N : Nat} (tb' : List tc_R) (k : Nat) (hk : tb.length = k) (he : tb ++ [(1, N, [])] = tb') (harr : Cond.arrayClass .boolean ∈ tw) (hn : ¬ n < 0) (hN : n.toNatClampNeg = N) (hbytes : N * componentBytes .boolean ≤ 536870912) (d : decode cc pc = .ok (.newarray .boolean, 2)) (hf : cells + 1 ≤ R.cells ∧ slots + N ≤ R.slots)
    (kk : tc_Y G b p l e R s m args below meth c cc nL own nmn ret Q (cells + 1) (slots + N) tb' (pc + 2) lv (.ref (tc_ad G k) :: rest)) : tc_Y G b p l e R s m args below meth c cc nL own nmn ret Q cells slots tb pc lv (.int n :: rest) := by
  subst hk; subst he
  exact ty_newa (ti := 1) (kd := 1) (ty := .boolean) rfl harr hn hN hbytes (fun C h => by cases h) (fun G cA h => by cases h; exact ⟨_, rfl, rfl⟩) (fun G => ⟨_, rfl⟩) d hf kk
theorem ty_newJ {n : Int32} {N : Nat} (tb' : List tc_R) (k : Nat) (hk : tb.length = k) (he : tb ++ [(2, N, [])] = tb') (harr : Cond.arrayClass .long ∈ tw) (hn : ¬ n < 0) (hN : n.toNatClampNeg = N) (hbytes : N * componentBytes .long ≤ 536870912) (d : decode cc pc = .ok (.newarray .long, 2)) (hf : cells + 1 ≤ R.cells ∧ slots + N ≤ R.slots)
    (kk : tc_Y G b p l e R s m args below meth c cc nL own nmn ret Q (cells + 1) (slots + N) tb' (pc + 2) lv (.ref (tc_ad G k) :: rest)) : tc_Y G b p l e R s m args below meth c cc nL own nmn ret Q cells slots tb pc lv (.int n :: rest) := by
  subst hk; subst he
  exact ty_newa (ti := 2) (kd := 2) (ty := .long) rfl harr hn hN hbytes (fun C h => by cases h) (fun G cA h => by cases h; exact ⟨_, rfl, rfl⟩) (fun G => ⟨_, rfl⟩) d hf kk
theorem ty_mnaE {n k : Int32} {N K index : Nat} (tb' : List tc_R) (z : Nat) (hz : tb.length = z) (he : tb ++ (3, N, [tb.length + 1]) :: List.replicate N (0, K, []) = tb') (hcl : Cond.classLink own index "[[I" ∈ tw) (harr : Cond.arrayClass .int ∈ tw) (hn : ¬ n < 0) (hk : ¬ k < 0) (hN : n.toNatClampNeg = N) (hK : k.toNatClampNeg = K) (hb1 : N * 4 ≤ 536870912) (hb2 : K * 4 ≤ 536870912) (d : decode cc pc = .ok (.multianewarray index 2, 4)) (hf : cells + (1 + N) ≤ R.cells ∧ slots + (N + N * K) ≤ R.slots)
    (kk : tc_Y G b p l e R s m args below meth c cc nL own nmn ret Q (cells + 1 + N) (slots + N + N * K) tb' (pc + 4) lv (.ref (tc_ad G z) :: rest)) : tc_Y G b p l e R s m args below meth c cc nL own nmn ret Q cells slots tb pc lv (.int k :: .int n :: rest) := by
  subst hz; subst he
  exact ty_mna hcl harr hn hk hN hK hb1 hb2 d hf kk
theorem ty_putR {C : String} {T : u_T} {N ci index k j x : Nat} {ty : FieldType} {fl : List Nat} (ty0 : Nat → FieldType) (tb' : List tc_R) (he : tb.set k (5, ci, fl.set j (x + 2)) = tb') (hk0 : tb[k]? = some (5, ci, fl)) (hc : tw_cl[ci]? = some (C, T, N)) (hin : ∀ w ∈ u_ws C T N, w ∈ tw) (hty : ∀ k, k < N → parseFieldDescriptor (T k).2.2.1 = some (ty0 k)) (hnm0 : ∀ a, a < N → ∀ b, b < N → a ≠ b → (T a).2.1 ≠ (T b).2.1)
    (hj : j < N) (hlink : Cond.fieldLink own index (T j).1 (T j).2.1 (T j).2.2.1 ∈ tw) (hdecl : (T j).1 = own) (hinit : nmn = "<init>") (hd : parseFieldDescriptor (T j).2.2.1 = some ty) (hv : ∀ a : Nat, narrow ty (.ref a) = .ref a ∧ fits ty (.ref a) = true) (hfl : j < fl.length) (d : decode cc pc = .ok (.putfield index, 3))
    (kk : tc_Y G b p l e R s m args below meth c cc nL own nmn ret Q cells slots tb' (pc + 3) lv rest) : tc_Y G b p l e R s m args below meth c cc nL own nmn ret Q cells slots tb pc lv (.ref (tc_ad G x) :: .ref (tc_ad G k) :: rest) := by
  subst he
  have e : ∀ G : tc_G, ty_v G (x + 2) = .ref (tc_ad G x) := fun G => by
    unfold ty_v; rw [if_neg (by omega), if_neg (by omega)]; rfl
  rw [← e G]
  exact ty_put (f := x + 2) ty0 hk0 hc hin hty hnm0 hj hlink hdecl hinit hd (fun G => by rw [e G]; exact hv _) hfl d kk
theorem ty_put0 {C : String} {T : u_T} {N ci index k j : Nat} {ty : FieldType} {fl : List Nat} (ty0 : Nat → FieldType) (he : tb.set k (5, ci, fl.set j 0) = tb) (hk0 : tb[k]? = some (5, ci, fl)) (hc : tw_cl[ci]? = some (C, T, N)) (hin : ∀ w ∈ u_ws C T N, w ∈ tw) (hty : ∀ k, k < N → parseFieldDescriptor (T k).2.2.1 = some (ty0 k)) (hnm0 : ∀ a, a < N → ∀ b, b < N → a ≠ b → (T a).2.1 ≠ (T b).2.1)
    (hj : j < N) (hlink : Cond.fieldLink own index (T j).1 (T j).2.1 (T j).2.2.1 ∈ tw) (hdecl : (T j).1 = own) (hinit : nmn = "<init>") (hd : parseFieldDescriptor (T j).2.2.1 = some ty) (hv : narrow ty (.int 0) = .int 0 ∧ fits ty (.int 0) = true) (hfl : j < fl.length) (d : decode cc pc = .ok (.putfield index, 3))
    (kk : tc_Y G b p l e R s m args below meth c cc nL own nmn ret Q cells slots tb (pc + 3) lv rest) : tc_Y G b p l e R s m args below meth c cc nL own nmn ret Q cells slots tb pc lv (.int 0 :: .ref (tc_ad G k) :: rest) :=
  ty_put (f := 0) ty0 hk0 hc hin hty hnm0 hj hlink hdecl hinit hd (fun _ => hv) hfl d (by rw [he]; exact kk)
end TY5
