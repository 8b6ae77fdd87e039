/-! The world of one claim: a fixed table of cells at addresses that are variables, its numbers in one function. A walk's judgement tc_V over it. -/
abbrev tc_S : Type := Nat → Nat → Int32
abbrev tc_R : Type := Nat × Nat × List Nat
abbrev tc_X : Type := List tc_R × List vw_C × List (String × String × List Int32) × List (String × Nat × MethodName × String) × List MethodName × List (String × String × String) × List (String × String × Bool)
abbrev tc_G : Type := va_G × (ClassId × ClassId × ClassId × ClassId) × (Nat → Nat)
def tc_ad (G : tc_G) (k : Nat) : Nat := G.2.2 k
/-- a cell: 0 ints, 1 booleans, 2 longs, 3 rows of ints (from a cell on), else an object (its class; its fields: 0 a number, k + 1 the cell k) -/
def tc_e (G : tc_G) (u : tc_S) (k : Nat) (r : tc_R) : va_E := match r.1 with
  | 0 => .inl (G.2.1.1, r.2.1, .inl (u k))
  | 1 => .inl (G.2.1.2.1, r.2.1, .inl (u k))
  | 2 => .inl (G.2.1.2.2.1, r.2.1, .inr (.inl fun j => (u k j).toInt64))
  | 3 => .inl (G.2.1.2.2.2, r.2.1, .inr (.inr (.inr (.inr fun j => some (tc_ad G (r.2.2.headD 0 + j))))))
  | _ => .inr (r.2.1, r.2.2.mapIdx fun j f => if f = 0 then .int (u k j) else .ref (tc_ad G (f - 1)))
def tc_w (X : tc_X) (G : tc_G) (u : tc_S) : va_W := X.1.mapIdx fun k r => (tc_ad G k, tc_e G u k r)
def tc_ty (G : tc_G) : List (ClassId × FieldType) := [(G.2.1.1, .int), (G.2.1.2.1, .boolean), (G.2.1.2.2.1, .long), (G.2.1.2.2.2, .array .int)]
def tc_A (X : tc_X) (G : tc_G) (sz : Nat) : Nat → Prop := fun q => (∃ k, k < X.1.length ∧ q = tc_ad G k) ∨ sz ≤ q
/-- a static of reference type, which nobody writes; nobody asks what it holds -/
def tc_O (C n d : String) (A : Nat → Prop) (U : State) (H : Heap) : Prop := ∃ (c : ClassId) (k : Class) (i : Nat) (f : Field) (a : Nat) (cell : Cell) (v : Value), U.vm.findClass C = some c ∧ U.fieldFound? C n d = some (c, k, i, f) ∧ f.isStatic = true ∧ k.statics = some a ∧ H[a]? = some cell ∧ cell.vm.isStatics = true ∧ cell.cls = c ∧ f.slot < cell.slots.size ∧ k.staticTypes[f.slot]? = some f.type ∧ cell.slots[f.slot]? = some v ∧ (v = .null ∨ ∃ x, v = .ref x) ∧ ¬ A a
theorem tc_O.moved {C n d : String} {A : Nat → Prop} {u U : State} {H : Heap} (hvm : u.vm.Alike U.vm) (h : tc_O C n d A u H) : tc_O C n d A U H := by
  obtain ⟨c, k, i, f, a, cell, v, h0, h1, h2, h3, h4, h5, h6, h7, h8, h9⟩ := h
  obtain ⟨k', hi', he⟩ := State.fieldFound?_setVm hvm h1
  exact ⟨c, k', i, f, a, cell, v, by rw [hvm.findClass]; exact h0, hi', h2, by rw [he]; exact h3, h4, h5, h6, h7, by rw [he]; exact h8, h9⟩
theorem tc_O.kept {C n d : String} {A : Nat → Prop} {U : State} {H H1 : Heap} (h : tc_O C n d A U H) (hq : ∀ a : Nat, a < H.size → ¬ A a → H1[a]? = H[a]?) : tc_O C n d A U H1 := by
  obtain ⟨c, k, i, f, a, cell, v, h0, h1, h2, h3, h4, h5, h6, h7, h8, h9, h10, h11⟩ := h
  exact ⟨c, k, i, f, a, cell, v, h0, h1, h2, h3, by rw [hq a (Array.getElem?_eq_some_iff.mp h4).1 h11]; exact h4, h5, h6, h7, h8, h9, h10, h11⟩
theorem tc_O.narrow {C n d : String} {A B : Nat → Prop} {U : State} {H : Heap} (h : tc_O C n d A U H) (hAB : ∀ q, B q → A q) : tc_O C n d B U H := by
  obtain ⟨c, k, i, f, a, cell, v, h0, h1, h2, h3, h4, h5, h6, h7, h8, h9, h10, h11⟩ := h
  exact ⟨c, k, i, f, a, cell, v, h0, h1, h2, h3, h4, h5, h6, h7, h8, h9, h10, fun z => h11 (hAB a z)⟩
theorem tc_O.lays {C n d : String} {A : Nat → Prop} {U : State} (args : Array Value) (h : tc_O C n d A U U.heap) : (Cond.laysStatic C n d).before args U = true := by
  obtain ⟨c, k, i, f, a, cell, v, hc, hf, hst, hsta, hcell, hiss, hcls, hlt, hty, h9, h10, h11⟩ := h
  simp [Cond.before, Cond.holds, Cond.value, hc, hf, hst, hsta, hcell, hiss, hcls, hlt, hty]
theorem tc_O.isRef {C n d : String} {A : Nat → Prop} {U : State} (args : Array Value) (h : tc_O C n d A U U.heap) : (Cond.isRef (.static C n d)).before args U = true := by
  obtain ⟨c, k, i, f, a, cell, v, hc, hf, hst, hsta, hcell, hiss, hcls, hlt, hty, h9, h10, h11⟩ := h
  have he : (Term.static C n d).eval args U none [] U = some v := by
    simp [Term.eval, State.fieldNamed?, hf, hst, hsta, hcell, hiss, h9]
  simp only [Cond.before, Cond.holds, Cond.value, he]
  rcases h10 with e | ⟨x, e⟩ <;> simp [e]
theorem tc_O.of {C n d : String} {A : Nat → Prop} {s : State} {args : Array Value} (h : (Cond.laysStatic C n d).before args s = true) (h2 : (Cond.isRef (.static C n d)).before args s = true) (hA : ∀ a : Nat, a < s.heap.size → ¬ A a) : tc_O C n d A s s.heap := by
  obtain ⟨c, k, i, f, a, cell, hc, hf, hst, hsta, hcell, hiss, hcls, hlt, hty⟩ := Cond.laysStatic_spec h
  have hv : cell.slots[f.slot]? = some cell.slots[f.slot] := Array.getElem?_eq_getElem hlt
  have he : (Term.static C n d).eval args s none [] s = some cell.slots[f.slot] := by
    simp [Term.eval, State.fieldNamed?, hf, hst, hsta, hcell, hiss]
  refine ⟨c, k, i, f, a, cell, _, hc, hf, hst, hsta, hcell, hiss, hcls, hlt, hty, hv, ?_, hA a (Array.getElem?_eq_some_iff.mp hcell).1⟩
  simp only [Cond.before, Cond.holds, Cond.value, he] at h2
  generalize cell.slots[f.slot] = w at h2
  cases w <;> simp at h2 ⊢
/-- the static tables of ints, which nobody writes -/
def tc_Z (X : tc_X) (A : Nat → Prop) (U : State) (H : Heap) : Prop := (∀ q ∈ X.2.2.1, ∃ t : Nat, va_Z q.1 q.2.1 "[I" (.ref t) A U H ∧ va_T .int t q.2.2.length (fun j => .int (q.2.2.getD j 0)) A U H) ∧ ∀ q ∈ X.2.2.2.2.2.1, tc_O q.1 q.2.1 q.2.2 A U H
/-- which class can be assigned to which -/
def tc_cst (U : State) (q : String × String × Bool) : Prop := ∃ x y : ClassId, U.vm.findClass q.1 = some x ∧ U.vm.findClass q.2.1 = some y ∧ U.vm.assignable x y = q.2.2
theorem tc_cst.moved {u U : State} (hvm : u.vm.Alike U.vm) {q : String × String × Bool} (h : tc_cst u q) : tc_cst U q := by
  obtain ⟨x, y, h1, h2, h3⟩ := h
  exact ⟨x, y, by rw [hvm.findClass]; exact h1, by rw [hvm.findClass]; exact h2, by rw [hvm.assignable]; exact h3⟩
/-- links among nest mates, and abstract methods: words of the tables that are carried apart -/
def tc_N (X : tc_X) (U : State) : Prop := (∀ q ∈ X.2.2.2.1, va_Nw (.methodLinkNest q.1 q.2.1 q.2.2.1 q.2.2.2) U) ∧ (∀ y ∈ X.2.2.2.2.1, va_Nw (.declares y) U) ∧ ∀ q ∈ X.2.2.2.2.2.2, tc_cst U q
theorem tc_N.warm {X : tc_X} {s U : State} (hW : s.WarmedH U.vm) (h : tc_N X s) : tc_N X U := ⟨fun q hq => va_Nw.warmM hW (h.1 q hq), fun y hy => va_Nw.warmD hW (h.2.1 y hy), fun q hq => (h.2.2 q hq).moved hW.alike⟩
theorem tc_N.same {X : tc_X} {u U : State} (e : u.vm = U.vm) (h : tc_N X u) : tc_N X U := ⟨fun q hq => va_Nw.same rfl e (h.1 q hq), fun y hy => va_Nw.same rfl e (h.2.1 y hy), fun q hq => (h.2.2 q hq).moved (e ▸ Vm.Alike.refl _)⟩
def tc_W (X : tc_X) (G : tc_G) (A : Nat → Prop) (s : State) (H : Heap) (locs : List Loc) (u : tc_S) : Prop :=
  va_P G.1 X.2.1 (tc_w X G u) H ∧ va_K G.1 X.2.1 (tc_ty G) s ∧ va_D A (tc_w X G u) ∧ va_S A s.heap H locs ∧ (∀ q, s.heap.size ≤ q → A q) ∧ tc_Z X A s s.heap ∧ tc_N X s
def tc_up (u : tc_S) (k i : Nat) (x : Int32) : tc_S := fun k' => if k' = k then upd (u k) i x else u k'
theorem tc_e_congr {G : tc_G} {u v : tc_S} {k : Nat} (r : tc_R) (h : u k = v k) : tc_e G u k r = tc_e G v k r := by
  unfold tc_e; rw [h]
theorem tc_w_at {X : tc_X} {G : tc_G} {u : tc_S} {k : Nat} {r : tc_R} (h : X.1[k]? = some r) : (tc_w X G u)[k]? = some (tc_ad G k, tc_e G u k r) := by
  unfold tc_w; rw [List.getElem?_mapIdx, h]; rfl
theorem tc_w_set {X : tc_X} {G : tc_G} {u v : tc_S} {k : Nat} {r : tc_R} (h : X.1[k]? = some r) (hv : ∀ j, j ≠ k → v j = u j) : (tc_w X G u).set k (tc_ad G k, tc_e G v k r) = tc_w X G v := by
  apply List.ext_getElem?
  intro i
  rw [List.getElem?_set]
  by_cases hi : k = i
  · subst hi
    rw [if_pos rfl, tc_w_at h]
    have : k < (tc_w X G u).length := by
      unfold tc_w; rw [List.length_mapIdx]; exact (List.getElem?_eq_some_iff.mp h).1
    rw [if_pos this]
  · rw [if_neg hi]
    unfold tc_w
    rw [List.getElem?_mapIdx, List.getElem?_mapIdx]
    cases X.1[i]? with
    | none => rfl
    | some r' =>
      simp only [Option.map_some]
      rw [tc_e_congr r' (hv i (fun e => hi e.symm))]
theorem tc_up_ne {u : tc_S} {k i j : Nat} {x : Int32} (h : j ≠ k) : tc_up u k i x j = u j := by unfold tc_up; rw [if_neg h]
theorem tc_up_eq {u : tc_S} {k i : Nat} {x : Int32} : tc_up u k i x k = upd (u k) i x := by unfold tc_up; rw [if_pos rfl]
theorem tc_up_self {u : tc_S} {k i : Nat} {x : Int32} : tc_up u k i x k i = x := by rw [tc_up_eq]; exact pk_us
theorem tc_up_at {u : tc_S} {k i j : Nat} {x : Int32} (h : j ≠ i) : tc_up u k i x k j = u k j := by rw [tc_up_eq]; exact pk_un h
theorem tc_D_of {X : tc_X} {G : tc_G} {u v : tc_S} {A B : Nat → Prop} (h : va_D A (tc_w X G u)) (hB : ∀ k, k < X.1.length → B (tc_ad G k)) : va_D B (tc_w X G v) := by
  have key : ∀ (w : tc_S) (i : Nat) (q : Nat × va_E), (tc_w X G w)[i]? = some q → ∃ r, X.1[i]? = some r ∧ q.1 = tc_ad G i := by
    intro w i q hq
    unfold tc_w at hq
    rw [List.getElem?_mapIdx] at hq
    cases hr : X.1[i]? with
    | none => rw [hr] at hq; cases hq
    | some r => rw [hr] at hq; cases hq; exact ⟨r, rfl, rfl⟩
  refine ⟨fun i j p q hi hj e => ?_, fun k q hk => ?_⟩
  · obtain ⟨r1, h1, e1⟩ := key v i p hi
    obtain ⟨r2, h2, e2⟩ := key v j q hj
    exact h.1 i j _ _ (tc_w_at (u := u) h1) (tc_w_at (u := u) h2) (by rw [← e1, ← e2]; exact e)
  · obtain ⟨r1, h1, e1⟩ := key v k q hk
    rw [e1]
    exact hB k (List.getElem?_eq_some_iff.mp h1).1
theorem tc_Z.moved {X : tc_X} {A : Nat → Prop} {u U : State} {H : Heap} (hvm : u.vm.Alike U.vm) (h : tc_Z X A u H) : tc_Z X A U H := ⟨fun q hq => by
  obtain ⟨t, h1, h2⟩ := h.1 q hq
  exact ⟨t, h1.moved hvm, h2.moved hvm⟩, fun q hq => (h.2 q hq).moved hvm⟩
theorem tc_Z.kept {X : tc_X} {A : Nat → Prop} {U : State} {H H1 : Heap} (h : tc_Z X A U H) (hq : ∀ a : Nat, a < H.size → ¬ A a → H1[a]? = H[a]?) : tc_Z X A U H1 := ⟨fun q h0 => by
  obtain ⟨t, h1, h2⟩ := h.1 q h0
  exact ⟨t, h1.kept hq, h2.kept hq⟩, fun q h0 => (h.2 q h0).kept hq⟩
theorem tc_Z.narrow {X : tc_X} {A B : Nat → Prop} {U : State} {H : Heap} (h : tc_Z X A U H) (hAB : ∀ q, B q → A q) : tc_Z X B U H := ⟨fun q h0 => by
  obtain ⟨t, h1, h2⟩ := h.1 q h0
  exact ⟨t, h1.narrow hAB, h2.narrow hAB⟩, fun q h0 => (h.2 q h0).narrow hAB⟩
/-- the locals by their places -/
def tc_as : Nat → List (Option Value) → List (Nat × Value)
  | _, [] => []
  | i, none :: t => tc_as (i + 1) t
  | i, some v :: t => if v.category = 1 then (i, v) :: tc_as (i + 1) t else tc_as (i + 1) t
theorem tc_as_mem : ∀ (lv : List (Option Value)) (k i : Nat) (v : Value), (i, v) ∈ tc_as k lv ↔ (k ≤ i ∧ lv[i - k]? = some (some v) ∧ v.category = 1) := by
  intro lv
  induction lv with
  | nil => intro k i v; simp [tc_as]
  | cons a t ih =>
    intro k i v
    have step : (i, v) ∈ tc_as (k + 1) t ↔ (k < i ∧ (a :: t)[i - k]? = some (some v) ∧ v.category = 1) := by
      rw [ih]
      constructor
      · rintro ⟨h1, h2, h3⟩
        refine ⟨h1, ?_, h3⟩
        rw [show i - k = (i - (k + 1)) + 1 by omega]
        exact h2
      · rintro ⟨h1, h2, h3⟩
        refine ⟨h1, ?_, h3⟩
        rw [show i - k = (i - (k + 1)) + 1 by omega] at h2
        exact h2
    have zero : ∀ x : Option Value, (x :: t)[k - k]? = some x := fun x => by rw [Nat.sub_self]; rfl
    cases a with
    | none =>
      show (i, v) ∈ tc_as (k + 1) t ↔ _
      rw [step]
      constructor
      · rintro ⟨h1, h2⟩; exact ⟨Nat.le_of_lt h1, h2⟩
      · rintro ⟨h1, h2, h3⟩
        rcases Nat.lt_or_eq_of_le h1 with h | h
        · exact ⟨h, h2, h3⟩
        · subst h; rw [zero] at h2; cases h2
    | some w =>
      show (i, v) ∈ (if w.category = 1 then (k, w) :: tc_as (k + 1) t else tc_as (k + 1) t) ↔ _
      by_cases hw : w.category = 1
      · rw [if_pos hw, List.mem_cons, step]
        constructor
        · rintro (h | ⟨h1, h2⟩)
          · cases h; exact ⟨Nat.le_refl _, zero _, hw⟩
          · exact ⟨Nat.le_of_lt h1, h2⟩
        · rintro ⟨h1, h2, h3⟩
          rcases Nat.lt_or_eq_of_le h1 with h | h
          · exact Or.inr ⟨h, h2, h3⟩
          · subst h; rw [zero] at h2; cases h2; exact Or.inl rfl
      · rw [if_neg hw, step]
        constructor
        · rintro ⟨h1, h2⟩; exact ⟨Nat.le_of_lt h1, h2⟩
        · rintro ⟨h1, h2, h3⟩
          rcases Nat.lt_or_eq_of_le h1 with h | h
          · exact ⟨h, h2, h3⟩
          · subst h; rw [zero] at h2; cases h2; exact absurd h3 hw
theorem tc_ld {ls : Array Slot} {nL : Nat} {lv : List (Option Value)} (h : lv_has ls nL (tc_as 0 lv)) {i : Nat} {v : Value} (hi : lv[i]? = some (some v)) (hc : v.category = 1) : ls[i]? = some (.val v) :=
  h.2.2 (i, v) ((tc_as_mem lv 0 i v).mpr ⟨Nat.zero_le _, hi, hc⟩)
theorem tc_st {ls : Array Slot} {nL : Nat} {lv : List (Option Value)} {i : Nat} {v : Value} (hi : i < lv.length)
    (h : lv_has ls nL ((i, v) :: (tc_as 0 lv).filter (fun q => !(q.1 == i) && !(q.1 + 1 == i && q.2.category == 2)))) : lv_has ls nL (tc_as 0 (lv.set i (some v))) := by
  refine ⟨h.1, h.2.1, fun q hq => h.2.2 q ?_⟩
  obtain ⟨j, w⟩ := q
  obtain ⟨-, h1, h2⟩ := (tc_as_mem _ 0 j w).mp hq
  rw [Nat.sub_zero, List.getElem?_set] at h1
  by_cases hj : i = j
  · rw [if_pos hj, if_pos (by omega)] at h1
    cases h1
    rw [hj]
    exact List.mem_cons_self
  · rw [if_neg hj] at h1
    refine List.mem_cons_of_mem _ (List.mem_filter.mpr ⟨(tc_as_mem lv 0 j w).mpr ⟨Nat.zero_le _, h1, h2⟩, ?_⟩)
    have e1 : (j == i) = false := by simp; exact fun e => hj e.symm
    have e2 : (w.category == 2) = false := by rw [h2]; rfl
    simp [e1, e2]
/-- an index into n places -/
def tc_ix (i : Int32) (n j : Nat) : Prop := ¬ i < 0 ∧ i.toNatClampNeg = j ∧ j < n
theorem tc_ix.in {i : Int32} {n j : Nat} (h : tc_ix i n j) : vp_in i n := by
  rintro (q | q)
  · exact h.1 q
  · have := h.2.2; rw [h.2.1] at q; omega
theorem tc_ixN {n j : Nat} (h : j < n) (hn : n < 2 ^ 31) : tc_ix (nI j) n j := ⟨nI_pos (by omega), nI_clamp (by omega), h⟩
/-- a contract's start and end -/
def tc_Pc (X : tc_X) (G : tc_G) (av : List Value) (u : tc_S) (sz : Nat) : Array Value → State → Prop :=
  va_Pc av (fun U => U.heap.size = sz ∧ va_P G.1 X.2.1 (tc_w X G u) U.heap ∧ va_K G.1 X.2.1 (tc_ty G) U ∧ va_D (fun _ => True) (tc_w X G u) ∧ tc_Z X (tc_A X G sz) U U.heap ∧ tc_N X U)
def tc_Qc (X : tc_X) (G : tc_G) (K : Outcome → tc_S → Prop) (sz : Nat) : Array Value → State → Outcome → State → Prop :=
  fun _ st oc t => (∃ u : tc_S, K oc u ∧ va_P G.1 X.2.1 (tc_w X G u) t.heap ∧ va_K G.1 X.2.1 (tc_ty G) t) ∧ va_F (tc_A X G sz) st t
def tc_C (X : tc_X) (G : tc_G) (l : Launch) (y : MethodName) (ws : List Cond) (rm : Room) (mc ms : Nat) (av : List Value) (u : tc_S) (K : Outcome → tc_S → Prop) : Prop :=
  ∀ sz : Nat, Met l y ws rm (tc_Pc X G av u sz) (tc_Qc X G K sz) mc ms (tc_A X G sz)
def tc_Ki (r : Int32) (u : tc_S) : Outcome → tc_S → Prop := fun o v => o = .returned (some (.int r)) ∧ v = u
def tc_Kv (u : tc_S) : Outcome → tc_S → Prop := fun o v => o = .returned none ∧ v = u
def tc_Kr (a : Nat) (u : tc_S) : Outcome → tc_S → Prop := fun o v => o = .returned (some (.ref a)) ∧ v = u
theorem tc_blind {X : tc_X} {G : tc_G} {av : List Value} {u : tc_S} {sz : Nat} : FrameBlind (tc_Pc X G av u sz) := by
  intro a U g mk q
  obtain ⟨q0, q1, qP, qK, qD, qZ, qN⟩ := q
  exact ⟨q0, q1, qP, va_K.moved (u := U) (U := U.calling g mk a) (Vm.Alike.refl U.vm) qK, qD, tc_Z.moved (u := U) (U := U.calling g mk a) (Vm.Alike.refl U.vm) qZ, tc_N.same (u := U) (U := U.calling g mk a) rfl qN⟩
def tc_V (X : tc_X) (G : tc_G) (p : Program) (l : Launch) (e : Env) (R : Room) (s : State) (m : MethodId) (args : Array Value) (below : List Frame) (meth : Method) (c : Code)
    (cc : ByteArray) (nL : Nat) (Ts : List Cond) (own : String) (ret : Option FieldType) (hh : List (Nat × Nat × Nat × Nat)) (Q : State → Prop) (cells slots : Nat) (u : tc_S) (pc : Nat) (lv : List (Option Value)) (st : List Value) : Prop :=
  p.tables.exec = Jvm.exec → c.code = cc → c.maxLocals = nL → s.vm.findClass own = some m.cls → (∀ w ∈ Ts, w.before args s = true) → meth.sig.returnType = ret → meth.locks = false → c.exceptionTable.toList.map (fun h => (h.startPc, h.endPc, h.handlerPc, h.catchType)) = hh →
  ∀ (ls : Array Slot) (H : Heap) (locs : List Loc), lv_has ls nL (tc_as 0 lv) → tc_W X G (tc_A X G s.heap.size) s H locs u → W p l e R s m args below meth c H locs cells slots Q (F0 m pc ls st)

section TV
variable {X : tc_X} {G : tc_G} {p : Program} {l : Launch} {e : Env} {R : Room} {s : State} {m : MethodId} {args : Array Value} {below : List Frame} {meth : Method} {c : Code}
variable {cc : ByteArray} {nL : Nat} {Ts : List Cond} {own : String} {ret : Option FieldType} {hh : List (Nat × Nat × Nat × Nat)} {Q : State → Prop} {cells slots : Nat} {u : tc_S} {pc : Nat} {lv : List (Option Value)} {rest : List Value}
theorem tv_iconst {n : Int} {v : Int32} (d : decode cc pc = .ok (.iconst n, 1)) (hv : Int32.ofInt n = v) (k : tc_V X G p l e R s m args below meth c cc nL Ts own ret hh Q cells slots u (pc + 1) lv (.int v :: rest)) : tc_V X G p l e R s m args below meth c cc nL Ts own ret hh Q cells slots u pc lv (rest) :=
  fun hx hb hm ho ht hr hk hq0 ls H locs hl hw => lv_iconst hx hb d hv (k hx hb hm ho ht hr hk hq0 ls H locs hl hw)
theorem tv_bipush {n : Int} {v : Int32} (d : decode cc pc = .ok (.bipush n, 2)) (hv : (Int8.ofInt n).toInt32 = v) (k : tc_V X G p l e R s m args below meth c cc nL Ts own ret hh Q cells slots u (pc + 2) lv (.int v :: rest)) : tc_V X G p l e R s m args below meth c cc nL Ts own ret hh Q cells slots u pc lv (rest) :=
  fun hx hb hm ho ht hr hk hq0 ls H locs hl hw => lv_bipush hx hb d hv (k hx hb hm ho ht hr hk hq0 ls H locs hl hw)
theorem tv_sipush {n : Int} {v : Int32} (d : decode cc pc = .ok (.sipush n, 3)) (hv : (Int16.ofInt n).toInt32 = v) (k : tc_V X G p l e R s m args below meth c cc nL Ts own ret hh Q cells slots u (pc + 3) lv (.int v :: rest)) : tc_V X G p l e R s m args below meth c cc nL Ts own ret hh Q cells slots u pc lv (rest) :=
  fun hx hb hm ho ht hr hk hq0 ls H locs hl hw => lv_sipush hx hb d hv (k hx hb hm ho ht hr hk hq0 ls H locs hl hw)
theorem tv_iadd {x y : Int32} (d : decode cc pc = .ok (.iadd, 1)) (k : tc_V X G p l e R s m args below meth c cc nL Ts own ret hh Q cells slots u (pc + 1) lv (.int (x + y) :: rest)) : tc_V X G p l e R s m args below meth c cc nL Ts own ret hh Q cells slots u pc lv (.int y :: .int x :: rest) :=
  fun hx hb hm ho ht hr hk hq0 ls H locs hl hw => lv_iadd hx hb d (k hx hb hm ho ht hr hk hq0 ls H locs hl hw)
theorem tv_isub {x y : Int32} (d : decode cc pc = .ok (.isub, 1)) (k : tc_V X G p l e R s m args below meth c cc nL Ts own ret hh Q cells slots u (pc + 1) lv (.int (x - y) :: rest)) : tc_V X G p l e R s m args below meth c cc nL Ts own ret hh Q cells slots u pc lv (.int y :: .int x :: rest) :=
  fun hx hb hm ho ht hr hk hq0 ls H locs hl hw => lv_isub hx hb d (k hx hb hm ho ht hr hk hq0 ls H locs hl hw)
theorem tv_imul {x y : Int32} (d : decode cc pc = .ok (.imul, 1)) (k : tc_V X G p l e R s m args below meth c cc nL Ts own ret hh Q cells slots u (pc + 1) lv (.int (x * y) :: rest)) : tc_V X G p l e R s m args below meth c cc nL Ts own ret hh Q cells slots u pc lv (.int y :: .int x :: rest) :=
  fun hx hb hm ho ht hr hk hq0 ls H locs hl hw => lv_imul hx hb d (k hx hb hm ho ht hr hk hq0 ls H locs hl hw)
theorem tv_iand {x y : Int32} (d : decode cc pc = .ok (.iand, 1)) (k : tc_V X G p l e R s m args below meth c cc nL Ts own ret hh Q cells slots u (pc + 1) lv (.int (x &&& y) :: rest)) : tc_V X G p l e R s m args below meth c cc nL Ts own ret hh Q cells slots u pc lv (.int y :: .int x :: rest) :=
  fun hx hb hm ho ht hr hk hq0 ls H locs hl hw => lv_iand hx hb d (k hx hb hm ho ht hr hk hq0 ls H locs hl hw)
theorem tv_ior {x y : Int32} (d : decode cc pc = .ok (.ior, 1)) (k : tc_V X G p l e R s m args below meth c cc nL Ts own ret hh Q cells slots u (pc + 1) lv (.int (x ||| y) :: rest)) : tc_V X G p l e R s m args below meth c cc nL Ts own ret hh Q cells slots u pc lv (.int y :: .int x :: rest) :=
  fun hx hb hm ho ht hr hk hq0 ls H locs hl hw => lv_ior hx hb d (k hx hb hm ho ht hr hk hq0 ls H locs hl hw)
theorem tv_ixor {x y : Int32} (d : decode cc pc = .ok (.ixor, 1)) (k : tc_V X G p l e R s m args below meth c cc nL Ts own ret hh Q cells slots u (pc + 1) lv (.int (x ^^^ y) :: rest)) : tc_V X G p l e R s m args below meth c cc nL Ts own ret hh Q cells slots u pc lv (.int y :: .int x :: rest) :=
  fun hx hb hm ho ht hr hk hq0 ls H locs hl hw => lv_ixor hx hb d (k hx hb hm ho ht hr hk hq0 ls H locs hl hw)
theorem tv_ishl {x y : Int32} (d : decode cc pc = .ok (.ishl, 1)) (k : tc_V X G p l e R s m args below meth c cc nL Ts own ret hh Q cells slots u (pc + 1) lv (.int (x <<< (y &&& 31)) :: rest)) : tc_V X G p l e R s m args below meth c cc nL Ts own ret hh Q cells slots u pc lv (.int y :: .int x :: rest) :=
  fun hx hb hm ho ht hr hk hq0 ls H locs hl hw => lv_ishl hx hb d (k hx hb hm ho ht hr hk hq0 ls H locs hl hw)
theorem tv_ishr {x y : Int32} (d : decode cc pc = .ok (.ishr, 1)) (k : tc_V X G p l e R s m args below meth c cc nL Ts own ret hh Q cells slots u (pc + 1) lv (.int (x >>> (y &&& 31)) :: rest)) : tc_V X G p l e R s m args below meth c cc nL Ts own ret hh Q cells slots u pc lv (.int y :: .int x :: rest) :=
  fun hx hb hm ho ht hr hk hq0 ls H locs hl hw => lv_ishr hx hb d (k hx hb hm ho ht hr hk hq0 ls H locs hl hw)
theorem tv_ineg {x : Int32} (d : decode cc pc = .ok (.ineg, 1)) (k : tc_V X G p l e R s m args below meth c cc nL Ts own ret hh Q cells slots u (pc + 1) lv (.int (-x) :: rest)) : tc_V X G p l e R s m args below meth c cc nL Ts own ret hh Q cells slots u pc lv (.int x :: rest) :=
  fun hx hb hm ho ht hr hk hq0 ls H locs hl hw => lv_ineg hx hb d (k hx hb hm ho ht hr hk hq0 ls H locs hl hw)
theorem tv_i2l {x : Int32} (d : decode cc pc = .ok (.i2l, 1)) (k : tc_V X G p l e R s m args below meth c cc nL Ts own ret hh Q cells slots u (pc + 1) lv (.long x.toInt64 :: rest)) : tc_V X G p l e R s m args below meth c cc nL Ts own ret hh Q cells slots u pc lv (.int x :: rest) :=
  fun hx hb hm ho ht hr hk hq0 ls H locs hl hw => lv_i2l hx hb d rfl (k hx hb hm ho ht hr hk hq0 ls H locs hl hw)
theorem tv_dup {va : Value} (d : decode cc pc = .ok (.dup, 1)) (hva : va.category = 1) (k : tc_V X G p l e R s m args below meth c cc nL Ts own ret hh Q cells slots u (pc + 1) lv (va :: va :: rest)) : tc_V X G p l e R s m args below meth c cc nL Ts own ret hh Q cells slots u pc lv (va :: rest) :=
  fun hx hb hm ho ht hr hk hq0 ls H locs hl hw => lv_dup hx hb d hva (k hx hb hm ho ht hr hk hq0 ls H locs hl hw)
theorem tv_pop {va : Value} (d : decode cc pc = .ok (.pop, 1)) (hva : va.category = 1) (k : tc_V X G p l e R s m args below meth c cc nL Ts own ret hh Q cells slots u (pc + 1) lv (rest)) : tc_V X G p l e R s m args below meth c cc nL Ts own ret hh Q cells slots u pc lv (va :: rest) :=
  fun hx hb hm ho ht hr hk hq0 ls H locs hl hw => lv_pop hx hb d hva (k hx hb hm ho ht hr hk hq0 ls H locs hl hw)
theorem tv_dup_x1 {va vb : Value} (d : decode cc pc = .ok (.dup_x1, 1)) (hva : va.category = 1) (hvb : vb.category = 1) (k : tc_V X G p l e R s m args below meth c cc nL Ts own ret hh Q cells slots u (pc + 1) lv (va :: vb :: va :: rest)) : tc_V X G p l e R s m args below meth c cc nL Ts own ret hh Q cells slots u pc lv (va :: vb :: rest) :=
  fun hx hb hm ho ht hr hk hq0 ls H locs hl hw => lv_dup_x1 hx hb d hva hvb (k hx hb hm ho ht hr hk hq0 ls H locs hl hw)
theorem tv_dup_x2 {va vb vd : Value} (d : decode cc pc = .ok (.dup_x2, 1)) (hva : va.category = 1) (hvb : vb.category = 1) (hvd : vd.category = 1) (k : tc_V X G p l e R s m args below meth c cc nL Ts own ret hh Q cells slots u (pc + 1) lv (va :: vb :: vd :: va :: rest)) : tc_V X G p l e R s m args below meth c cc nL Ts own ret hh Q cells slots u pc lv (va :: vb :: vd :: rest) :=
  fun hx hb hm ho ht hr hk hq0 ls H locs hl hw => lv_dup_x2 hx hb d hva hvb hvd (k hx hb hm ho ht hr hk hq0 ls H locs hl hw)
theorem tv_dup2 {va vb : Value} (d : decode cc pc = .ok (.dup2, 1)) (hva : va.category = 1) (hvb : vb.category = 1) (k : tc_V X G p l e R s m args below meth c cc nL Ts own ret hh Q cells slots u (pc + 1) lv (va :: vb :: va :: vb :: rest)) : tc_V X G p l e R s m args below meth c cc nL Ts own ret hh Q cells slots u pc lv (va :: vb :: rest) :=
  fun hx hb hm ho ht hr hk hq0 ls H locs hl hw => lv_dup2_11 hx hb d hva hvb (k hx hb hm ho ht hr hk hq0 ls H locs hl hw)
theorem tv_lcmp {x y : Int64} (d : decode cc pc = .ok (.lcmp, 1)) (k : tc_V X G p l e R s m args below meth c cc nL Ts own ret hh Q cells slots u (pc + 1) lv (.int (lg_cmp x y) :: rest)) : tc_V X G p l e R s m args below meth c cc nL Ts own ret hh Q cells slots u pc lv (.long y :: .long x :: rest) :=
  fun hx hb hm ho ht hr hk hq0 ls H locs hl hw => W.lcmp hx hb d (k hx hb hm ho ht hr hk hq0 ls H locs hl hw)
theorem tv_iload_n {k : Fin 4} {x : Int32} (d : decode cc pc = .ok (.iload_n k, 1)) (hi : lv[(k : Nat)]? = some (some (.int x))) (kk : tc_V X G p l e R s m args below meth c cc nL Ts own ret hh Q cells slots u (pc + 1) lv (.int x :: rest)) : tc_V X G p l e R s m args below meth c cc nL Ts own ret hh Q cells slots u pc lv rest :=
  fun hx hb hm ho ht hr hk hq0 ls H locs hl hw => lv_iload_n hx hb d rfl (tc_ld hl hi rfl) (kk hx hb hm ho ht hr hk hq0 ls H locs hl hw)
theorem tv_iload {i : Nat} {x : Int32} (d : decode cc pc = .ok (.iload i, 2)) (hi : lv[i]? = some (some (.int x))) (kk : tc_V X G p l e R s m args below meth c cc nL Ts own ret hh Q cells slots u (pc + 2) lv (.int x :: rest)) : tc_V X G p l e R s m args below meth c cc nL Ts own ret hh Q cells slots u pc lv rest :=
  fun hx hb hm ho ht hr hk hq0 ls H locs hl hw => lv_iload hx hb d (tc_ld hl hi rfl) (kk hx hb hm ho ht hr hk hq0 ls H locs hl hw)
theorem tv_aload_n {k : Fin 4} {x : Nat} (d : decode cc pc = .ok (.aload_n k, 1)) (hi : lv[(k : Nat)]? = some (some (.ref x))) (kk : tc_V X G p l e R s m args below meth c cc nL Ts own ret hh Q cells slots u (pc + 1) lv (.ref x :: rest)) : tc_V X G p l e R s m args below meth c cc nL Ts own ret hh Q cells slots u pc lv rest :=
  fun hx hb hm ho ht hr hk hq0 ls H locs hl hw => lv_aload_n hx hb d rfl (tc_ld hl hi rfl) (kk hx hb hm ho ht hr hk hq0 ls H locs hl hw)
theorem tv_aload {i : Nat} {x : Nat} (d : decode cc pc = .ok (.aload i, 2)) (hi : lv[i]? = some (some (.ref x))) (kk : tc_V X G p l e R s m args below meth c cc nL Ts own ret hh Q cells slots u (pc + 2) lv (.ref x :: rest)) : tc_V X G p l e R s m args below meth c cc nL Ts own ret hh Q cells slots u pc lv rest :=
  fun hx hb hm ho ht hr hk hq0 ls H locs hl hw => lv_aload hx hb d (tc_ld hl hi rfl) (kk hx hb hm ho ht hr hk hq0 ls H locs hl hw)
theorem tv_istore_g {k : Fin 4} {x : Int32} (d : decode cc pc = .ok (.istore_n k, 1)) (hn : (k : Nat) < lv.length) (hL : lv.length = nL) (kk : tc_V X G p l e R s m args below meth c cc nL Ts own ret hh Q cells slots u (pc + 1) (lv.set (k : Nat) (some (.int x))) rest) : tc_V X G p l e R s m args below meth c cc nL Ts own ret hh Q cells slots u pc lv (.int x :: rest) :=
  fun hx hb hm ho ht hr hk hq0 ls H locs hl hw => lv_istore_n hx hb d rfl hl (by omega) rfl (fun ls' hl' => kk hx hb hm ho ht hr hk hq0 ls' H locs (tc_st hn hl') hw)
theorem tv_istore_h {i : Nat} {x : Int32} (d : decode cc pc = .ok (.istore i, 2)) (hn : i < lv.length) (hL : lv.length = nL) (kk : tc_V X G p l e R s m args below meth c cc nL Ts own ret hh Q cells slots u (pc + 2) (lv.set i (some (.int x))) rest) : tc_V X G p l e R s m args below meth c cc nL Ts own ret hh Q cells slots u pc lv (.int x :: rest) :=
  fun hx hb hm ho ht hr hk hq0 ls H locs hl hw => lv_istore hx hb d hl (by omega) rfl (fun ls' hl' => kk hx hb hm ho ht hr hk hq0 ls' H locs (tc_st hn hl') hw)
theorem tv_istore0 {x : Int32} {a0 : Option Value} {tl : List (Option Value)} (d : decode cc pc = .ok (.istore_n 0, 1)) (hL : (a0 :: tl).length = nL) (kk : tc_V X G p l e R s m args below meth c cc nL Ts own ret hh Q cells slots u (pc + 1) (some (.int x) :: tl) rest) : tc_V X G p l e R s m args below meth c cc nL Ts own ret hh Q cells slots u pc (a0 :: tl) (.int x :: rest) :=
  tv_istore_g d (by simp only [List.length_cons]; show 0 < _; omega) hL kk
theorem tv_istore1 {x : Int32} {a0 a1 : Option Value} {tl : List (Option Value)} (d : decode cc pc = .ok (.istore_n 1, 1)) (hL : (a0 :: a1 :: tl).length = nL) (kk : tc_V X G p l e R s m args below meth c cc nL Ts own ret hh Q cells slots u (pc + 1) (a0 :: some (.int x) :: tl) rest) : tc_V X G p l e R s m args below meth c cc nL Ts own ret hh Q cells slots u pc (a0 :: a1 :: tl) (.int x :: rest) :=
  tv_istore_g d (by simp only [List.length_cons]; show 1 < _; omega) hL kk
theorem tv_istore2 {x : Int32} {a0 a1 a2 : Option Value} {tl : List (Option Value)} (d : decode cc pc = .ok (.istore_n 2, 1)) (hL : (a0 :: a1 :: a2 :: tl).length = nL) (kk : tc_V X G p l e R s m args below meth c cc nL Ts own ret hh Q cells slots u (pc + 1) (a0 :: a1 :: some (.int x) :: tl) rest) : tc_V X G p l e R s m args below meth c cc nL Ts own ret hh Q cells slots u pc (a0 :: a1 :: a2 :: tl) (.int x :: rest) :=
  tv_istore_g d (by simp only [List.length_cons]; show 2 < _; omega) hL kk
theorem tv_istore3 {x : Int32} {a0 a1 a2 a3 : Option Value} {tl : List (Option Value)} (d : decode cc pc = .ok (.istore_n 3, 1)) (hL : (a0 :: a1 :: a2 :: a3 :: tl).length = nL) (kk : tc_V X G p l e R s m args below meth c cc nL Ts own ret hh Q cells slots u (pc + 1) (a0 :: a1 :: a2 :: some (.int x) :: tl) rest) : tc_V X G p l e R s m args below meth c cc nL Ts own ret hh Q cells slots u pc (a0 :: a1 :: a2 :: a3 :: tl) (.int x :: rest) :=
  tv_istore_g d (by simp only [List.length_cons]; show 3 < _; omega) hL kk
theorem tv_istore4 {x : Int32} {a0 a1 a2 a3 a4 : Option Value} {tl : List (Option Value)} (d : decode cc pc = .ok (.istore 4, 2)) (hL : (a0 :: a1 :: a2 :: a3 :: a4 :: tl).length = nL) (kk : tc_V X G p l e R s m args below meth c cc nL Ts own ret hh Q cells slots u (pc + 2) (a0 :: a1 :: a2 :: a3 :: some (.int x) :: tl) rest) : tc_V X G p l e R s m args below meth c cc nL Ts own ret hh Q cells slots u pc (a0 :: a1 :: a2 :: a3 :: a4 :: tl) (.int x :: rest) :=
  tv_istore_h d (by simp only [List.length_cons]; show 4 < _; omega) hL kk
theorem tv_istore5 {x : Int32} {a0 a1 a2 a3 a4 a5 : Option Value} {tl : List (Option Value)} (d : decode cc pc = .ok (.istore 5, 2)) (hL : (a0 :: a1 :: a2 :: a3 :: a4 :: a5 :: tl).length = nL) (kk : tc_V X G p l e R s m args below meth c cc nL Ts own ret hh Q cells slots u (pc + 2) (a0 :: a1 :: a2 :: a3 :: a4 :: some (.int x) :: tl) rest) : tc_V X G p l e R s m args below meth c cc nL Ts own ret hh Q cells slots u pc (a0 :: a1 :: a2 :: a3 :: a4 :: a5 :: tl) (.int x :: rest) :=
  tv_istore_h d (by simp only [List.length_cons]; show 5 < _; omega) hL kk
theorem tv_istore6 {x : Int32} {a0 a1 a2 a3 a4 a5 a6 : Option Value} {tl : List (Option Value)} (d : decode cc pc = .ok (.istore 6, 2)) (hL : (a0 :: a1 :: a2 :: a3 :: a4 :: a5 :: a6 :: tl).length = nL) (kk : tc_V X G p l e R s m args below meth c cc nL Ts own ret hh Q cells slots u (pc + 2) (a0 :: a1 :: a2 :: a3 :: a4 :: a5 :: some (.int x) :: tl) rest) : tc_V X G p l e R s m args below meth c cc nL Ts own ret hh Q cells slots u pc (a0 :: a1 :: a2 :: a3 :: a4 :: a5 :: a6 :: tl) (.int x :: rest) :=
  tv_istore_h d (by simp only [List.length_cons]; show 6 < _; omega) hL kk
theorem tv_istore7 {x : Int32} {a0 a1 a2 a3 a4 a5 a6 a7 : Option Value} {tl : List (Option Value)} (d : decode cc pc = .ok (.istore 7, 2)) (hL : (a0 :: a1 :: a2 :: a3 :: a4 :: a5 :: a6 :: a7 :: tl).length = nL) (kk : tc_V X G p l e R s m args below meth c cc nL Ts own ret hh Q cells slots u (pc + 2) (a0 :: a1 :: a2 :: a3 :: a4 :: a5 :: a6 :: some (.int x) :: tl) rest) : tc_V X G p l e R s m args below meth c cc nL Ts own ret hh Q cells slots u pc (a0 :: a1 :: a2 :: a3 :: a4 :: a5 :: a6 :: a7 :: tl) (.int x :: rest) :=
  tv_istore_h d (by simp only [List.length_cons]; show 7 < _; omega) hL kk
theorem tv_istore8 {x : Int32} {a0 a1 a2 a3 a4 a5 a6 a7 a8 : Option Value} {tl : List (Option Value)} (d : decode cc pc = .ok (.istore 8, 2)) (hL : (a0 :: a1 :: a2 :: a3 :: a4 :: a5 :: a6 :: a7 :: a8 :: tl).length = nL) (kk : tc_V X G p l e R s m args below meth c cc nL Ts own ret hh Q cells slots u (pc + 2) (a0 :: a1 :: a2 :: a3 :: a4 :: a5 :: a6 :: a7 :: some (.int x) :: tl) rest) : tc_V X G p l e R s m args below meth c cc nL Ts own ret hh Q cells slots u pc (a0 :: a1 :: a2 :: a3 :: a4 :: a5 :: a6 :: a7 :: a8 :: tl) (.int x :: rest) :=
  tv_istore_h d (by simp only [List.length_cons]; show 8 < _; omega) hL kk
theorem tv_istore9 {x : Int32} {a0 a1 a2 a3 a4 a5 a6 a7 a8 a9 : Option Value} {tl : List (Option Value)} (d : decode cc pc = .ok (.istore 9, 2)) (hL : (a0 :: a1 :: a2 :: a3 :: a4 :: a5 :: a6 :: a7 :: a8 :: a9 :: tl).length = nL) (kk : tc_V X G p l e R s m args below meth c cc nL Ts own ret hh Q cells slots u (pc + 2) (a0 :: a1 :: a2 :: a3 :: a4 :: a5 :: a6 :: a7 :: a8 :: some (.int x) :: tl) rest) : tc_V X G p l e R s m args below meth c cc nL Ts own ret hh Q cells slots u pc (a0 :: a1 :: a2 :: a3 :: a4 :: a5 :: a6 :: a7 :: a8 :: a9 :: tl) (.int x :: rest) :=
  tv_istore_h d (by simp only [List.length_cons]; show 9 < _; omega) hL kk
theorem tv_istore10 {x : Int32} {a0 a1 a2 a3 a4 a5 a6 a7 a8 a9 a10 : Option Value} {tl : List (Option Value)} (d : decode cc pc = .ok (.istore 10, 2)) (hL : (a0 :: a1 :: a2 :: a3 :: a4 :: a5 :: a6 :: a7 :: a8 :: a9 :: a10 :: tl).length = nL) (kk : tc_V X G p l e R s m args below meth c cc nL Ts own ret hh Q cells slots u (pc + 2) (a0 :: a1 :: a2 :: a3 :: a4 :: a5 :: a6 :: a7 :: a8 :: a9 :: some (.int x) :: tl) rest) : tc_V X G p l e R s m args below meth c cc nL Ts own ret hh Q cells slots u pc (a0 :: a1 :: a2 :: a3 :: a4 :: a5 :: a6 :: a7 :: a8 :: a9 :: a10 :: tl) (.int x :: rest) :=
  tv_istore_h d (by simp only [List.length_cons]; show 10 < _; omega) hL kk
theorem tv_istore11 {x : Int32} {a0 a1 a2 a3 a4 a5 a6 a7 a8 a9 a10 a11 : Option Value} {tl : List (Option Value)} (d : decode cc pc = .ok (.istore 11, 2)) (hL : (a0 :: a1 :: a2 :: a3 :: a4 :: a5 :: a6 :: a7 :: a8 :: a9 :: a10 :: a11 :: tl).length = nL) (kk : tc_V X G p l e R s m args below meth c cc nL Ts own ret hh Q cells slots u (pc + 2) (a0 :: a1 :: a2 :: a3 :: a4 :: a5 :: a6 :: a7 :: a8 :: a9 :: a10 :: some (.int x) :: tl) rest) : tc_V X G p l e R s m args below meth c cc nL Ts own ret hh Q cells slots u pc (a0 :: a1 :: a2 :: a3 :: a4 :: a5 :: a6 :: a7 :: a8 :: a9 :: a10 :: a11 :: tl) (.int x :: rest) :=
  tv_istore_h d (by simp only [List.length_cons]; show 11 < _; omega) hL kk
theorem tv_istore12 {x : Int32} {a0 a1 a2 a3 a4 a5 a6 a7 a8 a9 a10 a11 a12 : Option Value} {tl : List (Option Value)} (d : decode cc pc = .ok (.istore 12, 2)) (hL : (a0 :: a1 :: a2 :: a3 :: a4 :: a5 :: a6 :: a7 :: a8 :: a9 :: a10 :: a11 :: a12 :: tl).length = nL) (kk : tc_V X G p l e R s m args below meth c cc nL Ts own ret hh Q cells slots u (pc + 2) (a0 :: a1 :: a2 :: a3 :: a4 :: a5 :: a6 :: a7 :: a8 :: a9 :: a10 :: a11 :: some (.int x) :: tl) rest) : tc_V X G p l e R s m args below meth c cc nL Ts own ret hh Q cells slots u pc (a0 :: a1 :: a2 :: a3 :: a4 :: a5 :: a6 :: a7 :: a8 :: a9 :: a10 :: a11 :: a12 :: tl) (.int x :: rest) :=
  tv_istore_h d (by simp only [List.length_cons]; show 12 < _; omega) hL kk
theorem tv_istore13 {x : Int32} {a0 a1 a2 a3 a4 a5 a6 a7 a8 a9 a10 a11 a12 a13 : Option Value} {tl : List (Option Value)} (d : decode cc pc = .ok (.istore 13, 2)) (hL : (a0 :: a1 :: a2 :: a3 :: a4 :: a5 :: a6 :: a7 :: a8 :: a9 :: a10 :: a11 :: a12 :: a13 :: tl).length = nL) (kk : tc_V X G p l e R s m args below meth c cc nL Ts own ret hh Q cells slots u (pc + 2) (a0 :: a1 :: a2 :: a3 :: a4 :: a5 :: a6 :: a7 :: a8 :: a9 :: a10 :: a11 :: a12 :: some (.int x) :: tl) rest) : tc_V X G p l e R s m args below meth c cc nL Ts own ret hh Q cells slots u pc (a0 :: a1 :: a2 :: a3 :: a4 :: a5 :: a6 :: a7 :: a8 :: a9 :: a10 :: a11 :: a12 :: a13 :: tl) (.int x :: rest) :=
  tv_istore_h d (by simp only [List.length_cons]; show 13 < _; omega) hL kk
theorem tv_astore_g {k : Fin 4} {x : Nat} (d : decode cc pc = .ok (.astore_n k, 1)) (hn : (k : Nat) < lv.length) (hL : lv.length = nL) (kk : tc_V X G p l e R s m args below meth c cc nL Ts own ret hh Q cells slots u (pc + 1) (lv.set (k : Nat) (some (.ref x))) rest) : tc_V X G p l e R s m args below meth c cc nL Ts own ret hh Q cells slots u pc lv (.ref x :: rest) :=
  fun hx hb hm ho ht hr hk hq0 ls H locs hl hw => lv_astore_n hx hb d rfl hl (by omega) rfl (fun ls' hl' => kk hx hb hm ho ht hr hk hq0 ls' H locs (tc_st hn hl') hw)
theorem tv_astore_h {i : Nat} {x : Nat} (d : decode cc pc = .ok (.astore i, 2)) (hn : i < lv.length) (hL : lv.length = nL) (kk : tc_V X G p l e R s m args below meth c cc nL Ts own ret hh Q cells slots u (pc + 2) (lv.set i (some (.ref x))) rest) : tc_V X G p l e R s m args below meth c cc nL Ts own ret hh Q cells slots u pc lv (.ref x :: rest) :=
  fun hx hb hm ho ht hr hk hq0 ls H locs hl hw => lv_astore hx hb d hl (by omega) rfl (fun ls' hl' => kk hx hb hm ho ht hr hk hq0 ls' H locs (tc_st hn hl') hw)
theorem tv_astore0 {x : Nat} {a0 : Option Value} {tl : List (Option Value)} (d : decode cc pc = .ok (.astore_n 0, 1)) (hL : (a0 :: tl).length = nL) (kk : tc_V X G p l e R s m args below meth c cc nL Ts own ret hh Q cells slots u (pc + 1) (some (.ref x) :: tl) rest) : tc_V X G p l e R s m args below meth c cc nL Ts own ret hh Q cells slots u pc (a0 :: tl) (.ref x :: rest) :=
  tv_astore_g d (by simp only [List.length_cons]; show 0 < _; omega) hL kk
theorem tv_astore1 {x : Nat} {a0 a1 : Option Value} {tl : List (Option Value)} (d : decode cc pc = .ok (.astore_n 1, 1)) (hL : (a0 :: a1 :: tl).length = nL) (kk : tc_V X G p l e R s m args below meth c cc nL Ts own ret hh Q cells slots u (pc + 1) (a0 :: some (.ref x) :: tl) rest) : tc_V X G p l e R s m args below meth c cc nL Ts own ret hh Q cells slots u pc (a0 :: a1 :: tl) (.ref x :: rest) :=
  tv_astore_g d (by simp only [List.length_cons]; show 1 < _; omega) hL kk
theorem tv_astore2 {x : Nat} {a0 a1 a2 : Option Value} {tl : List (Option Value)} (d : decode cc pc = .ok (.astore_n 2, 1)) (hL : (a0 :: a1 :: a2 :: tl).length = nL) (kk : tc_V X G p l e R s m args below meth c cc nL Ts own ret hh Q cells slots u (pc + 1) (a0 :: a1 :: some (.ref x) :: tl) rest) : tc_V X G p l e R s m args below meth c cc nL Ts own ret hh Q cells slots u pc (a0 :: a1 :: a2 :: tl) (.ref x :: rest) :=
  tv_astore_g d (by simp only [List.length_cons]; show 2 < _; omega) hL kk
theorem tv_astore3 {x : Nat} {a0 a1 a2 a3 : Option Value} {tl : List (Option Value)} (d : decode cc pc = .ok (.astore_n 3, 1)) (hL : (a0 :: a1 :: a2 :: a3 :: tl).length = nL) (kk : tc_V X G p l e R s m args below meth c cc nL Ts own ret hh Q cells slots u (pc + 1) (a0 :: a1 :: a2 :: some (.ref x) :: tl) rest) : tc_V X G p l e R s m args below meth c cc nL Ts own ret hh Q cells slots u pc (a0 :: a1 :: a2 :: a3 :: tl) (.ref x :: rest) :=
  tv_astore_g d (by simp only [List.length_cons]; show 3 < _; omega) hL kk
theorem tv_astore4 {x : Nat} {a0 a1 a2 a3 a4 : Option Value} {tl : List (Option Value)} (d : decode cc pc = .ok (.astore 4, 2)) (hL : (a0 :: a1 :: a2 :: a3 :: a4 :: tl).length = nL) (kk : tc_V X G p l e R s m args below meth c cc nL Ts own ret hh Q cells slots u (pc + 2) (a0 :: a1 :: a2 :: a3 :: some (.ref x) :: tl) rest) : tc_V X G p l e R s m args below meth c cc nL Ts own ret hh Q cells slots u pc (a0 :: a1 :: a2 :: a3 :: a4 :: tl) (.ref x :: rest) :=
  tv_astore_h d (by simp only [List.length_cons]; show 4 < _; omega) hL kk
theorem tv_astore5 {x : Nat} {a0 a1 a2 a3 a4 a5 : Option Value} {tl : List (Option Value)} (d : decode cc pc = .ok (.astore 5, 2)) (hL : (a0 :: a1 :: a2 :: a3 :: a4 :: a5 :: tl).length = nL) (kk : tc_V X G p l e R s m args below meth c cc nL Ts own ret hh Q cells slots u (pc + 2) (a0 :: a1 :: a2 :: a3 :: a4 :: some (.ref x) :: tl) rest) : tc_V X G p l e R s m args below meth c cc nL Ts own ret hh Q cells slots u pc (a0 :: a1 :: a2 :: a3 :: a4 :: a5 :: tl) (.ref x :: rest) :=
  tv_astore_h d (by simp only [List.length_cons]; show 5 < _; omega) hL kk
theorem tv_astore6 {x : Nat} {a0 a1 a2 a3 a4 a5 a6 : Option Value} {tl : List (Option Value)} (d : decode cc pc = .ok (.astore 6, 2)) (hL : (a0 :: a1 :: a2 :: a3 :: a4 :: a5 :: a6 :: tl).length = nL) (kk : tc_V X G p l e R s m args below meth c cc nL Ts own ret hh Q cells slots u (pc + 2) (a0 :: a1 :: a2 :: a3 :: a4 :: a5 :: some (.ref x) :: tl) rest) : tc_V X G p l e R s m args below meth c cc nL Ts own ret hh Q cells slots u pc (a0 :: a1 :: a2 :: a3 :: a4 :: a5 :: a6 :: tl) (.ref x :: rest) :=
  tv_astore_h d (by simp only [List.length_cons]; show 6 < _; omega) hL kk
theorem tv_astore7 {x : Nat} {a0 a1 a2 a3 a4 a5 a6 a7 : Option Value} {tl : List (Option Value)} (d : decode cc pc = .ok (.astore 7, 2)) (hL : (a0 :: a1 :: a2 :: a3 :: a4 :: a5 :: a6 :: a7 :: tl).length = nL) (kk : tc_V X G p l e R s m args below meth c cc nL Ts own ret hh Q cells slots u (pc + 2) (a0 :: a1 :: a2 :: a3 :: a4 :: a5 :: a6 :: some (.ref x) :: tl) rest) : tc_V X G p l e R s m args below meth c cc nL Ts own ret hh Q cells slots u pc (a0 :: a1 :: a2 :: a3 :: a4 :: a5 :: a6 :: a7 :: tl) (.ref x :: rest) :=
  tv_astore_h d (by simp only [List.length_cons]; show 7 < _; omega) hL kk
theorem tv_astore8 {x : Nat} {a0 a1 a2 a3 a4 a5 a6 a7 a8 : Option Value} {tl : List (Option Value)} (d : decode cc pc = .ok (.astore 8, 2)) (hL : (a0 :: a1 :: a2 :: a3 :: a4 :: a5 :: a6 :: a7 :: a8 :: tl).length = nL) (kk : tc_V X G p l e R s m args below meth c cc nL Ts own ret hh Q cells slots u (pc + 2) (a0 :: a1 :: a2 :: a3 :: a4 :: a5 :: a6 :: a7 :: some (.ref x) :: tl) rest) : tc_V X G p l e R s m args below meth c cc nL Ts own ret hh Q cells slots u pc (a0 :: a1 :: a2 :: a3 :: a4 :: a5 :: a6 :: a7 :: a8 :: tl) (.ref x :: rest) :=
  tv_astore_h d (by simp only [List.length_cons]; show 8 < _; omega) hL kk
theorem tv_astore9 {x : Nat} {a0 a1 a2 a3 a4 a5 a6 a7 a8 a9 : Option Value} {tl : List (Option Value)} (d : decode cc pc = .ok (.astore 9, 2)) (hL : (a0 :: a1 :: a2 :: a3 :: a4 :: a5 :: a6 :: a7 :: a8 :: a9 :: tl).length = nL) (kk : tc_V X G p l e R s m args below meth c cc nL Ts own ret hh Q cells slots u (pc + 2) (a0 :: a1 :: a2 :: a3 :: a4 :: a5 :: a6 :: a7 :: a8 :: some (.ref x) :: tl) rest) : tc_V X G p l e R s m args below meth c cc nL Ts own ret hh Q cells slots u pc (a0 :: a1 :: a2 :: a3 :: a4 :: a5 :: a6 :: a7 :: a8 :: a9 :: tl) (.ref x :: rest) :=
  tv_astore_h d (by simp only [List.length_cons]; show 9 < _; omega) hL kk
theorem tv_astore10 {x : Nat} {a0 a1 a2 a3 a4 a5 a6 a7 a8 a9 a10 : Option Value} {tl : List (Option Value)} (d : decode cc pc = .ok (.astore 10, 2)) (hL : (a0 :: a1 :: a2 :: a3 :: a4 :: a5 :: a6 :: a7 :: a8 :: a9 :: a10 :: tl).length = nL) (kk : tc_V X G p l e R s m args below meth c cc nL Ts own ret hh Q cells slots u (pc + 2) (a0 :: a1 :: a2 :: a3 :: a4 :: a5 :: a6 :: a7 :: a8 :: a9 :: some (.ref x) :: tl) rest) : tc_V X G p l e R s m args below meth c cc nL Ts own ret hh Q cells slots u pc (a0 :: a1 :: a2 :: a3 :: a4 :: a5 :: a6 :: a7 :: a8 :: a9 :: a10 :: tl) (.ref x :: rest) :=
  tv_astore_h d (by simp only [List.length_cons]; show 10 < _; omega) hL kk
theorem tv_astore11 {x : Nat} {a0 a1 a2 a3 a4 a5 a6 a7 a8 a9 a10 a11 : Option Value} {tl : List (Option Value)} (d : decode cc pc = .ok (.astore 11, 2)) (hL : (a0 :: a1 :: a2 :: a3 :: a4 :: a5 :: a6 :: a7 :: a8 :: a9 :: a10 :: a11 :: tl).length = nL) (kk : tc_V X G p l e R s m args below meth c cc nL Ts own ret hh Q cells slots u (pc + 2) (a0 :: a1 :: a2 :: a3 :: a4 :: a5 :: a6 :: a7 :: a8 :: a9 :: a10 :: some (.ref x) :: tl) rest) : tc_V X G p l e R s m args below meth c cc nL Ts own ret hh Q cells slots u pc (a0 :: a1 :: a2 :: a3 :: a4 :: a5 :: a6 :: a7 :: a8 :: a9 :: a10 :: a11 :: tl) (.ref x :: rest) :=
  tv_astore_h d (by simp only [List.length_cons]; show 11 < _; omega) hL kk
theorem tv_astore12 {x : Nat} {a0 a1 a2 a3 a4 a5 a6 a7 a8 a9 a10 a11 a12 : Option Value} {tl : List (Option Value)} (d : decode cc pc = .ok (.astore 12, 2)) (hL : (a0 :: a1 :: a2 :: a3 :: a4 :: a5 :: a6 :: a7 :: a8 :: a9 :: a10 :: a11 :: a12 :: tl).length = nL) (kk : tc_V X G p l e R s m args below meth c cc nL Ts own ret hh Q cells slots u (pc + 2) (a0 :: a1 :: a2 :: a3 :: a4 :: a5 :: a6 :: a7 :: a8 :: a9 :: a10 :: a11 :: some (.ref x) :: tl) rest) : tc_V X G p l e R s m args below meth c cc nL Ts own ret hh Q cells slots u pc (a0 :: a1 :: a2 :: a3 :: a4 :: a5 :: a6 :: a7 :: a8 :: a9 :: a10 :: a11 :: a12 :: tl) (.ref x :: rest) :=
  tv_astore_h d (by simp only [List.length_cons]; show 12 < _; omega) hL kk
theorem tv_astore13 {x : Nat} {a0 a1 a2 a3 a4 a5 a6 a7 a8 a9 a10 a11 a12 a13 : Option Value} {tl : List (Option Value)} (d : decode cc pc = .ok (.astore 13, 2)) (hL : (a0 :: a1 :: a2 :: a3 :: a4 :: a5 :: a6 :: a7 :: a8 :: a9 :: a10 :: a11 :: a12 :: a13 :: tl).length = nL) (kk : tc_V X G p l e R s m args below meth c cc nL Ts own ret hh Q cells slots u (pc + 2) (a0 :: a1 :: a2 :: a3 :: a4 :: a5 :: a6 :: a7 :: a8 :: a9 :: a10 :: a11 :: a12 :: some (.ref x) :: tl) rest) : tc_V X G p l e R s m args below meth c cc nL Ts own ret hh Q cells slots u pc (a0 :: a1 :: a2 :: a3 :: a4 :: a5 :: a6 :: a7 :: a8 :: a9 :: a10 :: a11 :: a12 :: a13 :: tl) (.ref x :: rest) :=
  tv_astore_h d (by simp only [List.length_cons]; show 13 < _; omega) hL kk
theorem tv_iinc_g {i : Nat} {n : Int} {x v : Int32} (d : decode cc pc = .ok (.iinc i n, 3)) (hv : Int32.ofInt n = v) (hi : lv[i]? = some (some (.int x))) (hL : lv.length = nL) (kk : tc_V X G p l e R s m args below meth c cc nL Ts own ret hh Q cells slots u (pc + 3) (lv.set i (some (.int (x + v)))) rest) : tc_V X G p l e R s m args below meth c cc nL Ts own ret hh Q cells slots u pc lv rest := by
  intro hx hb hm ho ht hr hk hq0 ls H locs hl hw  
  have hn : i < lv.length := (List.getElem?_eq_some_iff.mp hi).1
  have hm1 : (i, Value.int x) ∈ tc_as 0 lv := (tc_as_mem lv 0 i _).mpr ⟨Nat.zero_le _, hi, rfl⟩
  obtain ⟨k, hk1⟩ := List.getElem?_of_mem hm1
  exact lv_iinc (k := k) hx hb d hl hk1 (by rw [hv]) (by omega) rfl (fun ls' hl' => kk hx hb hm ho ht hr hk hq0 ls' H locs (tc_st hn hl') hw)
theorem tv_iinc0 {n : Int} {x v : Int32} {tl : List (Option Value)} (d : decode cc pc = .ok (.iinc 0 n, 3)) (hv : Int32.ofInt n = v) (hL : (some (.int x) :: tl).length = nL) (kk : tc_V X G p l e R s m args below meth c cc nL Ts own ret hh Q cells slots u (pc + 3) (some (.int (x + v)) :: tl) rest) : tc_V X G p l e R s m args below meth c cc nL Ts own ret hh Q cells slots u pc (some (.int x) :: tl) rest :=
  tv_iinc_g d hv (by rfl) hL kk
theorem tv_iinc1 {n : Int} {x v : Int32} {a0 : Option Value} {tl : List (Option Value)} (d : decode cc pc = .ok (.iinc 1 n, 3)) (hv : Int32.ofInt n = v) (hL : (a0 :: some (.int x) :: tl).length = nL) (kk : tc_V X G p l e R s m args below meth c cc nL Ts own ret hh Q cells slots u (pc + 3) (a0 :: some (.int (x + v)) :: tl) rest) : tc_V X G p l e R s m args below meth c cc nL Ts own ret hh Q cells slots u pc (a0 :: some (.int x) :: tl) rest :=
  tv_iinc_g d hv (by rfl) hL kk
theorem tv_iinc2 {n : Int} {x v : Int32} {a0 a1 : Option Value} {tl : List (Option Value)} (d : decode cc pc = .ok (.iinc 2 n, 3)) (hv : Int32.ofInt n = v) (hL : (a0 :: a1 :: some (.int x) :: tl).length = nL) (kk : tc_V X G p l e R s m args below meth c cc nL Ts own ret hh Q cells slots u (pc + 3) (a0 :: a1 :: some (.int (x + v)) :: tl) rest) : tc_V X G p l e R s m args below meth c cc nL Ts own ret hh Q cells slots u pc (a0 :: a1 :: some (.int x) :: tl) rest :=
  tv_iinc_g d hv (by rfl) hL kk
theorem tv_iinc3 {n : Int} {x v : Int32} {a0 a1 a2 : Option Value} {tl : List (Option Value)} (d : decode cc pc = .ok (.iinc 3 n, 3)) (hv : Int32.ofInt n = v) (hL : (a0 :: a1 :: a2 :: some (.int x) :: tl).length = nL) (kk : tc_V X G p l e R s m args below meth c cc nL Ts own ret hh Q cells slots u (pc + 3) (a0 :: a1 :: a2 :: some (.int (x + v)) :: tl) rest) : tc_V X G p l e R s m args below meth c cc nL Ts own ret hh Q cells slots u pc (a0 :: a1 :: a2 :: some (.int x) :: tl) rest :=
  tv_iinc_g d hv (by rfl) hL kk
theorem tv_iinc4 {n : Int} {x v : Int32} {a0 a1 a2 a3 : Option Value} {tl : List (Option Value)} (d : decode cc pc = .ok (.iinc 4 n, 3)) (hv : Int32.ofInt n = v) (hL : (a0 :: a1 :: a2 :: a3 :: some (.int x) :: tl).length = nL) (kk : tc_V X G p l e R s m args below meth c cc nL Ts own ret hh Q cells slots u (pc + 3) (a0 :: a1 :: a2 :: a3 :: some (.int (x + v)) :: tl) rest) : tc_V X G p l e R s m args below meth c cc nL Ts own ret hh Q cells slots u pc (a0 :: a1 :: a2 :: a3 :: some (.int x) :: tl) rest :=
  tv_iinc_g d hv (by rfl) hL kk
theorem tv_iinc5 {n : Int} {x v : Int32} {a0 a1 a2 a3 a4 : Option Value} {tl : List (Option Value)} (d : decode cc pc = .ok (.iinc 5 n, 3)) (hv : Int32.ofInt n = v) (hL : (a0 :: a1 :: a2 :: a3 :: a4 :: some (.int x) :: tl).length = nL) (kk : tc_V X G p l e R s m args below meth c cc nL Ts own ret hh Q cells slots u (pc + 3) (a0 :: a1 :: a2 :: a3 :: a4 :: some (.int (x + v)) :: tl) rest) : tc_V X G p l e R s m args below meth c cc nL Ts own ret hh Q cells slots u pc (a0 :: a1 :: a2 :: a3 :: a4 :: some (.int x) :: tl) rest :=
  tv_iinc_g d hv (by rfl) hL kk
theorem tv_iinc6 {n : Int} {x v : Int32} {a0 a1 a2 a3 a4 a5 : Option Value} {tl : List (Option Value)} (d : decode cc pc = .ok (.iinc 6 n, 3)) (hv : Int32.ofInt n = v) (hL : (a0 :: a1 :: a2 :: a3 :: a4 :: a5 :: some (.int x) :: tl).length = nL) (kk : tc_V X G p l e R s m args below meth c cc nL Ts own ret hh Q cells slots u (pc + 3) (a0 :: a1 :: a2 :: a3 :: a4 :: a5 :: some (.int (x + v)) :: tl) rest) : tc_V X G p l e R s m args below meth c cc nL Ts own ret hh Q cells slots u pc (a0 :: a1 :: a2 :: a3 :: a4 :: a5 :: some (.int x) :: tl) rest :=
  tv_iinc_g d hv (by rfl) hL kk
theorem tv_iinc7 {n : Int} {x v : Int32} {a0 a1 a2 a3 a4 a5 a6 : Option Value} {tl : List (Option Value)} (d : decode cc pc = .ok (.iinc 7 n, 3)) (hv : Int32.ofInt n = v) (hL : (a0 :: a1 :: a2 :: a3 :: a4 :: a5 :: a6 :: some (.int x) :: tl).length = nL) (kk : tc_V X G p l e R s m args below meth c cc nL Ts own ret hh Q cells slots u (pc + 3) (a0 :: a1 :: a2 :: a3 :: a4 :: a5 :: a6 :: some (.int (x + v)) :: tl) rest) : tc_V X G p l e R s m args below meth c cc nL Ts own ret hh Q cells slots u pc (a0 :: a1 :: a2 :: a3 :: a4 :: a5 :: a6 :: some (.int x) :: tl) rest :=
  tv_iinc_g d hv (by rfl) hL kk
theorem tv_iinc8 {n : Int} {x v : Int32} {a0 a1 a2 a3 a4 a5 a6 a7 : Option Value} {tl : List (Option Value)} (d : decode cc pc = .ok (.iinc 8 n, 3)) (hv : Int32.ofInt n = v) (hL : (a0 :: a1 :: a2 :: a3 :: a4 :: a5 :: a6 :: a7 :: some (.int x) :: tl).length = nL) (kk : tc_V X G p l e R s m args below meth c cc nL Ts own ret hh Q cells slots u (pc + 3) (a0 :: a1 :: a2 :: a3 :: a4 :: a5 :: a6 :: a7 :: some (.int (x + v)) :: tl) rest) : tc_V X G p l e R s m args below meth c cc nL Ts own ret hh Q cells slots u pc (a0 :: a1 :: a2 :: a3 :: a4 :: a5 :: a6 :: a7 :: some (.int x) :: tl) rest :=
  tv_iinc_g d hv (by rfl) hL kk
theorem tv_iinc9 {n : Int} {x v : Int32} {a0 a1 a2 a3 a4 a5 a6 a7 a8 : Option Value} {tl : List (Option Value)} (d : decode cc pc = .ok (.iinc 9 n, 3)) (hv : Int32.ofInt n = v) (hL : (a0 :: a1 :: a2 :: a3 :: a4 :: a5 :: a6 :: a7 :: a8 :: some (.int x) :: tl).length = nL) (kk : tc_V X G p l e R s m args below meth c cc nL Ts own ret hh Q cells slots u (pc + 3) (a0 :: a1 :: a2 :: a3 :: a4 :: a5 :: a6 :: a7 :: a8 :: some (.int (x + v)) :: tl) rest) : tc_V X G p l e R s m args below meth c cc nL Ts own ret hh Q cells slots u pc (a0 :: a1 :: a2 :: a3 :: a4 :: a5 :: a6 :: a7 :: a8 :: some (.int x) :: tl) rest :=
  tv_iinc_g d hv (by rfl) hL kk
theorem tv_iinc10 {n : Int} {x v : Int32} {a0 a1 a2 a3 a4 a5 a6 a7 a8 a9 : Option Value} {tl : List (Option Value)} (d : decode cc pc = .ok (.iinc 10 n, 3)) (hv : Int32.ofInt n = v) (hL : (a0 :: a1 :: a2 :: a3 :: a4 :: a5 :: a6 :: a7 :: a8 :: a9 :: some (.int x) :: tl).length = nL) (kk : tc_V X G p l e R s m args below meth c cc nL Ts own ret hh Q cells slots u (pc + 3) (a0 :: a1 :: a2 :: a3 :: a4 :: a5 :: a6 :: a7 :: a8 :: a9 :: some (.int (x + v)) :: tl) rest) : tc_V X G p l e R s m args below meth c cc nL Ts own ret hh Q cells slots u pc (a0 :: a1 :: a2 :: a3 :: a4 :: a5 :: a6 :: a7 :: a8 :: a9 :: some (.int x) :: tl) rest :=
  tv_iinc_g d hv (by rfl) hL kk
theorem tv_iinc11 {n : Int} {x v : Int32} {a0 a1 a2 a3 a4 a5 a6 a7 a8 a9 a10 : Option Value} {tl : List (Option Value)} (d : decode cc pc = .ok (.iinc 11 n, 3)) (hv : Int32.ofInt n = v) (hL : (a0 :: a1 :: a2 :: a3 :: a4 :: a5 :: a6 :: a7 :: a8 :: a9 :: a10 :: some (.int x) :: tl).length = nL) (kk : tc_V X G p l e R s m args below meth c cc nL Ts own ret hh Q cells slots u (pc + 3) (a0 :: a1 :: a2 :: a3 :: a4 :: a5 :: a6 :: a7 :: a8 :: a9 :: a10 :: some (.int (x + v)) :: tl) rest) : tc_V X G p l e R s m args below meth c cc nL Ts own ret hh Q cells slots u pc (a0 :: a1 :: a2 :: a3 :: a4 :: a5 :: a6 :: a7 :: a8 :: a9 :: a10 :: some (.int x) :: tl) rest :=
  tv_iinc_g d hv (by rfl) hL kk
theorem tv_iinc12 {n : Int} {x v : Int32} {a0 a1 a2 a3 a4 a5 a6 a7 a8 a9 a10 a11 : Option Value} {tl : List (Option Value)} (d : decode cc pc = .ok (.iinc 12 n, 3)) (hv : Int32.ofInt n = v) (hL : (a0 :: a1 :: a2 :: a3 :: a4 :: a5 :: a6 :: a7 :: a8 :: a9 :: a10 :: a11 :: some (.int x) :: tl).length = nL) (kk : tc_V X G p l e R s m args below meth c cc nL Ts own ret hh Q cells slots u (pc + 3) (a0 :: a1 :: a2 :: a3 :: a4 :: a5 :: a6 :: a7 :: a8 :: a9 :: a10 :: a11 :: some (.int (x + v)) :: tl) rest) : tc_V X G p l e R s m args below meth c cc nL Ts own ret hh Q cells slots u pc (a0 :: a1 :: a2 :: a3 :: a4 :: a5 :: a6 :: a7 :: a8 :: a9 :: a10 :: a11 :: some (.int x) :: tl) rest :=
  tv_iinc_g d hv (by rfl) hL kk
theorem tv_iinc13 {n : Int} {x v : Int32} {a0 a1 a2 a3 a4 a5 a6 a7 a8 a9 a10 a11 a12 : Option Value} {tl : List (Option Value)} (d : decode cc pc = .ok (.iinc 13 n, 3)) (hv : Int32.ofInt n = v) (hL : (a0 :: a1 :: a2 :: a3 :: a4 :: a5 :: a6 :: a7 :: a8 :: a9 :: a10 :: a11 :: a12 :: some (.int x) :: tl).length = nL) (kk : tc_V X G p l e R s m args below meth c cc nL Ts own ret hh Q cells slots u (pc + 3) (a0 :: a1 :: a2 :: a3 :: a4 :: a5 :: a6 :: a7 :: a8 :: a9 :: a10 :: a11 :: a12 :: some (.int (x + v)) :: tl) rest) : tc_V X G p l e R s m args below meth c cc nL Ts own ret hh Q cells slots u pc (a0 :: a1 :: a2 :: a3 :: a4 :: a5 :: a6 :: a7 :: a8 :: a9 :: a10 :: a11 :: a12 :: some (.int x) :: tl) rest :=
  tv_iinc_g d hv (by rfl) hL kk
theorem tv_if_eq {x : Int32} {off : Int} (tgt : Nat) (d : decode cc pc = .ok (.ifCond .eq off, 3)) (ht : (pc : Int) + off = (tgt : Int)) (kt : x = 0 → tc_V X G p l e R s m args below meth c cc nL Ts own ret hh Q cells slots u tgt lv rest) (kf : ¬ x = 0 → tc_V X G p l e R s m args below meth c cc nL Ts own ret hh Q cells slots u (pc + 3) lv rest) : tc_V X G p l e R s m args below meth c cc nL Ts own ret hh Q cells slots u pc lv (.int x :: rest) :=
  fun hx hb hm ho hs hr hk hq0 ls H locs hl hw => lv_if_eq hx hb d ht (fun h => kt h hx hb hm ho hs hr hk hq0 ls H locs hl hw) (fun h => kf h hx hb hm ho hs hr hk hq0 ls H locs hl hw)
theorem tv_icmp_eq {x y : Int32} {off : Int} (tgt : Nat) (d : decode cc pc = .ok (.if_icmp .eq off, 3)) (ht : (pc : Int) + off = (tgt : Int)) (kt : x = y → tc_V X G p l e R s m args below meth c cc nL Ts own ret hh Q cells slots u tgt lv rest) (kf : ¬ x = y → tc_V X G p l e R s m args below meth c cc nL Ts own ret hh Q cells slots u (pc + 3) lv rest) : tc_V X G p l e R s m args below meth c cc nL Ts own ret hh Q cells slots u pc lv (.int y :: .int x :: rest) :=
  fun hx hb hm ho hs hr hk hq0 ls H locs hl hw => lv_icmp_eq hx hb d ht (fun h => kt h hx hb hm ho hs hr hk hq0 ls H locs hl hw) (fun h => kf h hx hb hm ho hs hr hk hq0 ls H locs hl hw)
theorem tv_if_ne {x : Int32} {off : Int} (tgt : Nat) (d : decode cc pc = .ok (.ifCond .ne off, 3)) (ht : (pc : Int) + off = (tgt : Int)) (kt : ¬ x = 0 → tc_V X G p l e R s m args below meth c cc nL Ts own ret hh Q cells slots u tgt lv rest) (kf : x = 0 → tc_V X G p l e R s m args below meth c cc nL Ts own ret hh Q cells slots u (pc + 3) lv rest) : tc_V X G p l e R s m args below meth c cc nL Ts own ret hh Q cells slots u pc lv (.int x :: rest) :=
  fun hx hb hm ho hs hr hk hq0 ls H locs hl hw => lv_if_ne hx hb d ht (fun h => kt h hx hb hm ho hs hr hk hq0 ls H locs hl hw) (fun h => kf h hx hb hm ho hs hr hk hq0 ls H locs hl hw)
theorem tv_icmp_ne {x y : Int32} {off : Int} (tgt : Nat) (d : decode cc pc = .ok (.if_icmp .ne off, 3)) (ht : (pc : Int) + off = (tgt : Int)) (kt : ¬ x = y → tc_V X G p l e R s m args below meth c cc nL Ts own ret hh Q cells slots u tgt lv rest) (kf : x = y → tc_V X G p l e R s m args below meth c cc nL Ts own ret hh Q cells slots u (pc + 3) lv rest) : tc_V X G p l e R s m args below meth c cc nL Ts own ret hh Q cells slots u pc lv (.int y :: .int x :: rest) :=
  fun hx hb hm ho hs hr hk hq0 ls H locs hl hw => lv_icmp_ne hx hb d ht (fun h => kt h hx hb hm ho hs hr hk hq0 ls H locs hl hw) (fun h => kf h hx hb hm ho hs hr hk hq0 ls H locs hl hw)
theorem tv_if_lt {x : Int32} {off : Int} (tgt : Nat) (d : decode cc pc = .ok (.ifCond .lt off, 3)) (ht : (pc : Int) + off = (tgt : Int)) (kt : x < 0 → tc_V X G p l e R s m args below meth c cc nL Ts own ret hh Q cells slots u tgt lv rest) (kf : ¬ x < 0 → tc_V X G p l e R s m args below meth c cc nL Ts own ret hh Q cells slots u (pc + 3) lv rest) : tc_V X G p l e R s m args below meth c cc nL Ts own ret hh Q cells slots u pc lv (.int x :: rest) :=
  fun hx hb hm ho hs hr hk hq0 ls H locs hl hw => lv_if_lt hx hb d ht (fun h => kt h hx hb hm ho hs hr hk hq0 ls H locs hl hw) (fun h => kf h hx hb hm ho hs hr hk hq0 ls H locs hl hw)
theorem tv_icmp_lt {x y : Int32} {off : Int} (tgt : Nat) (d : decode cc pc = .ok (.if_icmp .lt off, 3)) (ht : (pc : Int) + off = (tgt : Int)) (kt : x < y → tc_V X G p l e R s m args below meth c cc nL Ts own ret hh Q cells slots u tgt lv rest) (kf : ¬ x < y → tc_V X G p l e R s m args below meth c cc nL Ts own ret hh Q cells slots u (pc + 3) lv rest) : tc_V X G p l e R s m args below meth c cc nL Ts own ret hh Q cells slots u pc lv (.int y :: .int x :: rest) :=
  fun hx hb hm ho hs hr hk hq0 ls H locs hl hw => lv_icmp_lt hx hb d ht (fun h => kt h hx hb hm ho hs hr hk hq0 ls H locs hl hw) (fun h => kf h hx hb hm ho hs hr hk hq0 ls H locs hl hw)
theorem tv_if_ge {x : Int32} {off : Int} (tgt : Nat) (d : decode cc pc = .ok (.ifCond .ge off, 3)) (ht : (pc : Int) + off = (tgt : Int)) (kt : 0 ≤ x → tc_V X G p l e R s m args below meth c cc nL Ts own ret hh Q cells slots u tgt lv rest) (kf : ¬ 0 ≤ x → tc_V X G p l e R s m args below meth c cc nL Ts own ret hh Q cells slots u (pc + 3) lv rest) : tc_V X G p l e R s m args below meth c cc nL Ts own ret hh Q cells slots u pc lv (.int x :: rest) :=
  fun hx hb hm ho hs hr hk hq0 ls H locs hl hw => lv_if_ge hx hb d ht (fun h => kt h hx hb hm ho hs hr hk hq0 ls H locs hl hw) (fun h => kf h hx hb hm ho hs hr hk hq0 ls H locs hl hw)
theorem tv_icmp_ge {x y : Int32} {off : Int} (tgt : Nat) (d : decode cc pc = .ok (.if_icmp .ge off, 3)) (ht : (pc : Int) + off = (tgt : Int)) (kt : y ≤ x → tc_V X G p l e R s m args below meth c cc nL Ts own ret hh Q cells slots u tgt lv rest) (kf : ¬ y ≤ x → tc_V X G p l e R s m args below meth c cc nL Ts own ret hh Q cells slots u (pc + 3) lv rest) : tc_V X G p l e R s m args below meth c cc nL Ts own ret hh Q cells slots u pc lv (.int y :: .int x :: rest) :=
  fun hx hb hm ho hs hr hk hq0 ls H locs hl hw => lv_icmp_ge hx hb d ht (fun h => kt h hx hb hm ho hs hr hk hq0 ls H locs hl hw) (fun h => kf h hx hb hm ho hs hr hk hq0 ls H locs hl hw)
theorem tv_if_gt {x : Int32} {off : Int} (tgt : Nat) (d : decode cc pc = .ok (.ifCond .gt off, 3)) (ht : (pc : Int) + off = (tgt : Int)) (kt : 0 < x → tc_V X G p l e R s m args below meth c cc nL Ts own ret hh Q cells slots u tgt lv rest) (kf : ¬ 0 < x → tc_V X G p l e R s m args below meth c cc nL Ts own ret hh Q cells slots u (pc + 3) lv rest) : tc_V X G p l e R s m args below meth c cc nL Ts own ret hh Q cells slots u pc lv (.int x :: rest) :=
  fun hx hb hm ho hs hr hk hq0 ls H locs hl hw => lv_if_gt hx hb d ht (fun h => kt h hx hb hm ho hs hr hk hq0 ls H locs hl hw) (fun h => kf h hx hb hm ho hs hr hk hq0 ls H locs hl hw)
theorem tv_icmp_gt {x y : Int32} {off : Int} (tgt : Nat) (d : decode cc pc = .ok (.if_icmp .gt off, 3)) (ht : (pc : Int) + off = (tgt : Int)) (kt : y < x → tc_V X G p l e R s m args below meth c cc nL Ts own ret hh Q cells slots u tgt lv rest) (kf : ¬ y < x → tc_V X G p l e R s m args below meth c cc nL Ts own ret hh Q cells slots u (pc + 3) lv rest) : tc_V X G p l e R s m args below meth c cc nL Ts own ret hh Q cells slots u pc lv (.int y :: .int x :: rest) :=
  fun hx hb hm ho hs hr hk hq0 ls H locs hl hw => lv_icmp_gt hx hb d ht (fun h => kt h hx hb hm ho hs hr hk hq0 ls H locs hl hw) (fun h => kf h hx hb hm ho hs hr hk hq0 ls H locs hl hw)
theorem tv_if_le {x : Int32} {off : Int} (tgt : Nat) (d : decode cc pc = .ok (.ifCond .le off, 3)) (ht : (pc : Int) + off = (tgt : Int)) (kt : x ≤ 0 → tc_V X G p l e R s m args below meth c cc nL Ts own ret hh Q cells slots u tgt lv rest) (kf : ¬ x ≤ 0 → tc_V X G p l e R s m args below meth c cc nL Ts own ret hh Q cells slots u (pc + 3) lv rest) : tc_V X G p l e R s m args below meth c cc nL Ts own ret hh Q cells slots u pc lv (.int x :: rest) :=
  fun hx hb hm ho hs hr hk hq0 ls H locs hl hw => lv_if_le hx hb d ht (fun h => kt h hx hb hm ho hs hr hk hq0 ls H locs hl hw) (fun h => kf h hx hb hm ho hs hr hk hq0 ls H locs hl hw)
theorem tv_icmp_le {x y : Int32} {off : Int} (tgt : Nat) (d : decode cc pc = .ok (.if_icmp .le off, 3)) (ht : (pc : Int) + off = (tgt : Int)) (kt : x ≤ y → tc_V X G p l e R s m args below meth c cc nL Ts own ret hh Q cells slots u tgt lv rest) (kf : ¬ x ≤ y → tc_V X G p l e R s m args below meth c cc nL Ts own ret hh Q cells slots u (pc + 3) lv rest) : tc_V X G p l e R s m args below meth c cc nL Ts own ret hh Q cells slots u pc lv (.int y :: .int x :: rest) :=
  fun hx hb hm ho hs hr hk hq0 ls H locs hl hw => lv_icmp_le hx hb d ht (fun h => kt h hx hb hm ho hs hr hk hq0 ls H locs hl hw) (fun h => kf h hx hb hm ho hs hr hk hq0 ls H locs hl hw)
theorem tv_goto {off : Int} (tgt : Nat) (d : decode cc pc = .ok (.goto off, 3)) (ht : (pc : Int) + off = (tgt : Int)) (k : tc_V X G p l e R s m args below meth c cc nL Ts own ret hh Q cells slots u tgt lv rest) : tc_V X G p l e R s m args below meth c cc nL Ts own ret hh Q cells slots u pc lv rest :=
  fun hx hb hm ho hs hr hk hq0 ls H locs hl hw => lv_goto hx hb d ht (k hx hb hm ho hs hr hk hq0 ls H locs hl hw)
theorem tv_lookup {dflt : Int} {ps : Array (Int × Int)} {len : Nat} {x : Int32} {off : Int} (tgt : Nat) (d : decode cc pc = .ok (.lookupswitch dflt ps, len)) (hp : (ps.toList.zip (ps.toList.drop 1)).all (fun (a, next) => a.1 < next.1) = true) (hof : Op.lookupswitch.offset ps.toList dflt x.toInt = off) (ht : (pc : Int) + off = (tgt : Int)) (k : tc_V X G p l e R s m args below meth c cc nL Ts own ret hh Q cells slots u tgt lv rest) : tc_V X G p l e R s m args below meth c cc nL Ts own ret hh Q cells slots u pc lv (.int x :: rest) :=
  fun hx hb hm ho hs hr hk hq0 ls H locs hl hw => lv_lookup hx hb d hp hof ht (k hx hb hm ho hs hr hk hq0 ls H locs hl hw)
theorem tv_tableOut {dflt lo hi : Int} {offs : Array Int} {len : Nat} {x : Int32} (tgt : Nat) (d : decode cc pc = .ok (.tableswitch dflt lo hi offs, len)) (h : x.toInt < lo ∨ hi < x.toInt) (ht : (pc : Int) + dflt = (tgt : Int)) (k : tc_V X G p l e R s m args below meth c cc nL Ts own ret hh Q cells slots u tgt lv rest) : tc_V X G p l e R s m args below meth c cc nL Ts own ret hh Q cells slots u pc lv (.int x :: rest) :=
  fun hx hb hm ho hs hr hk hq0 ls H locs hl hw => lv_tableOut hx hb d h ht (k hx hb hm ho hs hr hk hq0 ls H locs hl hw)
theorem tv_tableIn {dflt lo hi : Int} {offs : Array Int} {len : Nat} {x : Int32} {off : Int} (tgt : Nat) (d : decode cc pc = .ok (.tableswitch dflt lo hi offs, len)) (h1 : ¬ x.toInt < lo) (h2 : ¬ hi < x.toInt) (hof : offs[(x.toInt - lo).toNat]? = some off) (ht : (pc : Int) + off = (tgt : Int)) (k : tc_V X G p l e R s m args below meth c cc nL Ts own ret hh Q cells slots u tgt lv rest) : tc_V X G p l e R s m args below meth c cc nL Ts own ret hh Q cells slots u pc lv (.int x :: rest) :=
  fun hx hb hm ho hs hr hk hq0 ls H locs hl hw => lv_tableIn hx hb d h1 h2 hof ht (k hx hb hm ho hs hr hk hq0 ls H locs hl hw)
theorem tv_ldc {index : Nat} {v : Int32} (hcn : Cond.constant own index v ∈ Ts) (d : decode cc pc = .ok (.ldc index, 2)) (k : tc_V X G p l e R s m args below meth c cc nL Ts own ret hh Q cells slots u (pc + 2) lv (.int v :: rest)) : tc_V X G p l e R s m args below meth c cc nL Ts own ret hh Q cells slots u pc lv rest :=
  fun hx hb hm ho ht hr hk hq0 ls H locs hl hw => lv_ldc hx hb ho (ht _ hcn) d (k hx hb hm ho ht hr hk hq0 ls H locs hl hw)
theorem tc_fs {G : tc_G} {u : tc_S} {k j f : Nat} {fl : List Nat} (h : fl[j]? = some f) : (fl.mapIdx fun j f => if f = 0 then Value.int (u k j) else .ref (tc_ad G (f - 1)))[j]? = some (if f = 0 then Value.int (u k j) else .ref (tc_ad G (f - 1))) := by
  rw [List.getElem?_mapIdx, h]; rfl
theorem tc_fs_set {G : tc_G} {u : tc_S} {k j : Nat} {x : Int32} {fl : List Nat} (h : fl[j]? = some 0) :
    (fl.mapIdx fun j f => if f = 0 then Value.int (u k j) else .ref (tc_ad G (f - 1))).set j (.int x) = fl.mapIdx fun i f => if f = 0 then Value.int (tc_up u k j x k i) else .ref (tc_ad G (f - 1)) := by
  apply List.ext_getElem?
  intro i
  have hlt : j < fl.length := (List.getElem?_eq_some_iff.mp h).1
  rw [List.getElem?_set, List.getElem?_mapIdx, List.getElem?_mapIdx, List.length_mapIdx]
  by_cases hi : j = i
  · subst hi
    rw [if_pos rfl, if_pos hlt, h]
    simp only [Option.map_some, if_true]
    rw [tc_up_self]
  · rw [if_neg hi]
    cases fl[i]? with
    | none => rfl
    | some f =>
      simp only [Option.map_some]
      rw [tc_up_at (fun q => hi q.symm)]
theorem tv_getI {k ci index N : Nat} {fl : List Nat} {C : String} {T : u_T} (j : Nat) (hk0 : X.1[k]? = some (4, ci, fl)) (hc0 : X.2.1[ci]? = some (C, T, N)) (hin : ∀ w ∈ u_ws C T N, w ∈ Ts) (hj : j < N) (hlk : Cond.fieldLink own index (T j).1 (T j).2.1 (T j).2.2.1 ∈ Ts) (hf : fl[j]? = some 0) (d : decode cc pc = .ok (.getfield index, 3)) (kk : tc_V X G p l e R s m args below meth c cc nL Ts own ret hh Q cells slots u (pc + 3) lv (.int (u k j) :: rest)) : tc_V X G p l e R s m args below meth c cc nL Ts own ret hh Q cells slots u pc lv (.ref (tc_ad G k) :: rest) :=
  fun hx hb hm ho ht hr hk hq0 ls H locs hl hw => va_get (D := G.1) (cl := X.2.1) (ws := tc_w X G u) hx hb ht hin ho hw.2.1 hw.1 k (tc_w_at hk0) hc0 j hj (ht _ hlk) (fun _ h => h) (tc_fs hf) d (kk hx hb hm ho ht hr hk hq0 ls H locs hl hw)
theorem tv_getR {k ci index N : Nat} {fl : List Nat} {C : String} {T : u_T} (j : Nat) {q : Nat} (hk0 : X.1[k]? = some (4, ci, fl)) (hc0 : X.2.1[ci]? = some (C, T, N)) (hin : ∀ w ∈ u_ws C T N, w ∈ Ts) (hj : j < N) (hlk : Cond.fieldLink own index (T j).1 (T j).2.1 (T j).2.2.1 ∈ Ts) (hf : fl[j]? = some (q + 1)) (d : decode cc pc = .ok (.getfield index, 3)) (kk : tc_V X G p l e R s m args below meth c cc nL Ts own ret hh Q cells slots u (pc + 3) lv (.ref (tc_ad G q) :: rest)) : tc_V X G p l e R s m args below meth c cc nL Ts own ret hh Q cells slots u pc lv (.ref (tc_ad G k) :: rest) :=
  fun hx hb hm ho ht hr hk hq0 ls H locs hl hw => va_get (D := G.1) (cl := X.2.1) (ws := tc_w X G u) hx hb ht hin ho hw.2.1 hw.1 k (tc_w_at hk0) hc0 j hj (ht _ hlk) (fun _ h => h) (tc_fs hf) d (kk hx hb hm ho ht hr hk hq0 ls H locs hl hw)
theorem tv_putI {k ci index N : Nat} {fl : List Nat} {C : String} {T : u_T} (j : Nat) (ty0 : Nat → FieldType) {ty : FieldType} {x : Int32} (hk0 : X.1[k]? = some (4, ci, fl)) (hc0 : X.2.1[ci]? = some (C, T, N)) (hin : ∀ w ∈ u_ws C T N, w ∈ Ts) (hj : j < N) (hlk : Cond.fieldLink own index (T j).1 (T j).2.1 (T j).2.2.1 ∈ Ts) (hty : ∀ k, k < N → parseFieldDescriptor (T k).2.2.1 = some (ty0 k)) (hnm : ∀ a, a < N → ∀ b, b < N → a ≠ b → (T a).2.1 ≠ (T b).2.1) (hfin : (T j).2.2.2 = false) (hd : parseFieldDescriptor (T j).2.2.1 = some ty) (hn : narrow ty (.int x) = .int x) (hfit : fits ty (.int x) = true) (hf : fl[j]? = some 0) (d : decode cc pc = .ok (.putfield index, 3)) (kk : tc_V X G p l e R s m args below meth c cc nL Ts own ret hh Q cells slots (tc_up u k j x) (pc + 3) lv rest) : tc_V X G p l e R s m args below meth c cc nL Ts own ret hh Q cells slots u pc lv (.int x :: .ref (tc_ad G k) :: rest) := by
  intro hx hb hm ho ht hr hk hq0 ls H locs hl hw  
  refine va_put (D := G.1) (cl := X.2.1) (ws := tc_w X G u) hx hb ht hin ty0 hty hnm ho hw.2.1 hw.1 hw.2.2.1 hw.2.2.2.1 k (tc_w_at hk0) hc0 j hj (ht _ hlk) (fun _ h => h) hfin hd hn hfit (by rw [List.length_mapIdx]; exact (List.getElem?_eq_some_iff.mp hf).1) d (fun H1 locs1 hP hD hS => ?_)
  have e : (tc_w X G u).set k (tc_ad G k, .inr (ci, (fl.mapIdx fun j f => if f = 0 then Value.int (u k j) else .ref (tc_ad G (f - 1))).set j (.int x))) = tc_w X G (tc_up u k j x) := by
    rw [tc_fs_set hf]
    exact tc_w_set (v := tc_up u k j x) hk0 (fun i hi => tc_up_ne hi)
  exact kk hx hb hm ho ht hr hk hq0 ls H1 locs1 hl ⟨by rw [← e]; exact hP, hw.2.1, by rw [← e]; exact hD, hS, hw.2.2.2.2⟩
theorem tv_iald {k n j : Nat} {li : List Nat} {i : Int32} (hk0 : X.1[k]? = some (0, n, li)) (hi : tc_ix i n j) (d : decode cc pc = .ok (.iaload, 1)) (kk : tc_V X G p l e R s m args below meth c cc nL Ts own ret hh Q cells slots u (pc + 1) lv (.int (u k j) :: rest)) : tc_V X G p l e R s m args below meth c cc nL Ts own ret hh Q cells slots u pc lv (.int i :: .ref (tc_ad G k) :: rest) := by
  intro hx hb hm ho ht hr hk hq0 ls H locs hl hw  
  refine va_iald (D := G.1) (cl := X.2.1) (ws := tc_w X G u) hx hb hw.2.1 hw.1 k 0 (tc_w_at hk0) rfl hi.in d ?_
  rw [hi.2.1]
  exact kk hx hb hm ho ht hr hk hq0 ls H locs hl hw
theorem tv_zald {k n j : Nat} {li : List Nat} {i : Int32} (hk0 : X.1[k]? = some (1, n, li)) (hi : tc_ix i n j) (d : decode cc pc = .ok (.baload, 1)) (kk : tc_V X G p l e R s m args below meth c cc nL Ts own ret hh Q cells slots u (pc + 1) lv (.int (u k j) :: rest)) : tc_V X G p l e R s m args below meth c cc nL Ts own ret hh Q cells slots u pc lv (.int i :: .ref (tc_ad G k) :: rest) := by
  intro hx hb hm ho ht hr hk hq0 ls H locs hl hw  
  refine va_zald (D := G.1) (cl := X.2.1) (ws := tc_w X G u) hx hb hw.2.1 hw.1 k 1 (tc_w_at hk0) rfl hi.in d ?_
  rw [hi.2.1]
  exact kk hx hb hm ho ht hr hk hq0 ls H locs hl hw
theorem tv_lald {k n j : Nat} {li : List Nat} {i : Int32} (hk0 : X.1[k]? = some (2, n, li)) (hi : tc_ix i n j) (d : decode cc pc = .ok (.laload, 1)) (kk : tc_V X G p l e R s m args below meth c cc nL Ts own ret hh Q cells slots u (pc + 1) lv (.long (u k j).toInt64 :: rest)) : tc_V X G p l e R s m args below meth c cc nL Ts own ret hh Q cells slots u pc lv (.int i :: .ref (tc_ad G k) :: rest) := by
  intro hx hb hm ho ht hr hk hq0 ls H locs hl hw  
  refine va_lald (D := G.1) (cl := X.2.1) (ws := tc_w X G u) hx hb hw.2.1 hw.1 k 2 (tc_w_at hk0) rfl hi.in d ?_
  rw [hi.2.1]
  exact kk hx hb hm ho ht hr hk hq0 ls H locs hl hw
theorem tv_aald {k n j : Nat} {i : Int32} {b : Nat} (hk0 : X.1[k]? = some (3, n, [b])) (hi : tc_ix i n j) (d : decode cc pc = .ok (.aaload, 1)) (kk : tc_V X G p l e R s m args below meth c cc nL Ts own ret hh Q cells slots u (pc + 1) lv (.ref (tc_ad G (b + j)) :: rest)) : tc_V X G p l e R s m args below meth c cc nL Ts own ret hh Q cells slots u pc lv (.int i :: .ref (tc_ad G k) :: rest) := by
  intro hx hb hm ho ht hr hk hq0 ls H locs hl hw  
  have hcell := hw.1 k _ (tc_w_at hk0)
  exact W.aald (v := .ref (tc_ad G (b + j))) (ty := .array .int) hx hb hcell ((hw.2.1.2 3 _ rfl).1 n (fun j => va_rf (some (tc_ad G (b + j))))) rfl (fun q => by cases q) (by show ¬ (i < 0 ∨ (arrV _ _ _).slots.size ≤ _); rw [arrV_size]; exact hi.in) (by show (arrV _ _ _).slots[_]? = _; rw [hi.2.1, arrV_read _ _ hi.2.2]; rfl) rfl rfl d (kk hx hb hm ho ht hr hk hq0 ls H locs hl hw)
theorem tv_iast {k n j : Nat} {li : List Nat} {i : Int32} {x : Int32} (hk0 : X.1[k]? = some (0, n, li)) (hi : tc_ix i n j) (d : decode cc pc = .ok (.iastore, 1)) (kk : tc_V X G p l e R s m args below meth c cc nL Ts own ret hh Q cells slots (tc_up u k j x) (pc + 1) lv rest) : tc_V X G p l e R s m args below meth c cc nL Ts own ret hh Q cells slots u pc lv (.int x :: .int i :: .ref (tc_ad G k) :: rest) := by
  intro hx hb hm ho ht hr hk hq0 ls H locs hl hw  
  refine va_iast (D := G.1) (cl := X.2.1) (ws := tc_w X G u) hx hb hw.2.1 hw.1 hw.2.2.1 hw.2.2.2.1 k 0 (tc_w_at hk0) rfl hi.in d (fun H1 locs1 hP hD hS => ?_)
  rw [hi.2.1] at hP hD
  have e : (tc_w X G u).set k (tc_ad G k, tc_e G (tc_up u k j x) k (0, n, li)) = tc_w X G (tc_up u k j x) := tc_w_set hk0 (fun i hi => tc_up_ne hi)
  have e1 : tc_e G (tc_up u k j x) k (0, n, li) = .inl (G.2.1.1, n, .inl (upd (u k) j x)) := by
    unfold tc_e
    simp only [tc_up_eq]
  rw [e1] at e
  exact kk hx hb hm ho ht hr hk hq0 ls H1 locs1 hl ⟨by rw [← e]; exact hP, hw.2.1, by rw [← e]; exact hD, hS, hw.2.2.2.2⟩
theorem tv_zast {k n j : Nat} {li : List Nat} {i : Int32} {x : Int32} (hk0 : X.1[k]? = some (1, n, li)) (hi : tc_ix i n j) (hz : vp_nar .boolean x = x) (d : decode cc pc = .ok (.bastore, 1)) (kk : tc_V X G p l e R s m args below meth c cc nL Ts own ret hh Q cells slots (tc_up u k j x) (pc + 1) lv rest) : tc_V X G p l e R s m args below meth c cc nL Ts own ret hh Q cells slots u pc lv (.int x :: .int i :: .ref (tc_ad G k) :: rest) := by
  intro hx hb hm ho ht hr hk hq0 ls H locs hl hw  
  refine va_zast (D := G.1) (cl := X.2.1) (ws := tc_w X G u) hx hb hw.2.1 hw.1 hw.2.2.1 hw.2.2.2.1 k 1 (tc_w_at hk0) rfl hi.in d (fun H1 locs1 hP hD hS => ?_)
  rw [hi.2.1] at hP hD
  rw [hz] at hP hD
  have e : (tc_w X G u).set k (tc_ad G k, tc_e G (tc_up u k j x) k (1, n, li)) = tc_w X G (tc_up u k j x) := tc_w_set hk0 (fun i hi => tc_up_ne hi)
  have e1 : tc_e G (tc_up u k j x) k (1, n, li) = .inl (G.2.1.2.1, n, .inl (upd (u k) j x)) := by
    unfold tc_e
    simp only [tc_up_eq]
  rw [e1] at e
  exact kk hx hb hm ho ht hr hk hq0 ls H1 locs1 hl ⟨by rw [← e]; exact hP, hw.2.1, by rw [← e]; exact hD, hS, hw.2.2.2.2⟩
theorem tv_last {k n j : Nat} {li : List Nat} {i : Int32} {x : Int32} (hk0 : X.1[k]? = some (2, n, li)) (hi : tc_ix i n j) (d : decode cc pc = .ok (.lastore, 1)) (kk : tc_V X G p l e R s m args below meth c cc nL Ts own ret hh Q cells slots (tc_up u k j x) (pc + 1) lv rest) : tc_V X G p l e R s m args below meth c cc nL Ts own ret hh Q cells slots u pc lv (.long x.toInt64 :: .int i :: .ref (tc_ad G k) :: rest) := by
  intro hx hb hm ho ht hr hk hq0 ls H locs hl hw  
  refine va_last (D := G.1) (cl := X.2.1) (ws := tc_w X G u) hx hb hw.2.1 hw.1 hw.2.2.1 hw.2.2.2.1 k 2 (tc_w_at hk0) rfl hi.in d (fun H1 locs1 hP hD hS => ?_)
  rw [hi.2.1] at hP hD
  have e : (tc_w X G u).set k (tc_ad G k, tc_e G (tc_up u k j x) k (2, n, li)) = tc_w X G (tc_up u k j x) := tc_w_set hk0 (fun i hi => tc_up_ne hi)
  have e1 : tc_e G (tc_up u k j x) k (2, n, li) = .inl (G.2.1.2.2.1, n, .inr (.inl (vp_updL (fun j => (u k j).toInt64) j x.toInt64))) := by
    unfold tc_e
    simp only [tc_up_eq]; rw [show (fun q => (upd (u k) j x q).toInt64) = vp_updL (fun q => (u k q).toInt64) j x.toInt64 from by funext q; unfold upd vp_updL; split <;> rfl]
  rw [e1] at e
  exact kk hx hb hm ho ht hr hk hq0 ls H1 locs1 hl ⟨by rw [← e]; exact hP, hw.2.1, by rw [← e]; exact hD, hS, hw.2.2.2.2⟩
theorem tv_alen {k n : Nat} {li : List Nat} {v : Int32} (hk0 : X.1[k]? = some (0, n, li)) (hv : Int32.ofNat n = v) (d : decode cc pc = .ok (.arraylength, 1)) (kk : tc_V X G p l e R s m args below meth c cc nL Ts own ret hh Q cells slots u (pc + 1) lv (.int v :: rest)) : tc_V X G p l e R s m args below meth c cc nL Ts own ret hh Q cells slots u pc lv (.ref (tc_ad G k) :: rest) :=
  fun hx hb hm ho ht hr hk hq0 ls H locs hl hw => va_alen (D := G.1) (cl := X.2.1) (ws := tc_w X G u) hx hb hw.2.1 hw.1 k 0 (tc_w_at hk0) (ty := .int) rfl hv d (kk hx hb hm ho ht hr hk hq0 ls H locs hl hw)
theorem tv_gets {C nm : String} {ta : List Int32} {index : Nat} (hq : (C, nm, ta) ∈ X.2.2.1) (hlk : Cond.fieldLink own index C nm "[I" ∈ Ts) (d : decode cc pc = .ok (.getstatic index, 3)) (kk : ∀ t : Nat, va_T .int t ta.length (fun j => .int (ta.getD j 0)) (tc_A X G s.heap.size) s s.heap → tc_V X G p l e R s m args below meth c cc nL Ts own ret hh Q cells slots u (pc + 3) lv (.ref t :: rest)) : tc_V X G p l e R s m args below meth c cc nL Ts own ret hh Q cells slots u pc lv rest := by
  intro hx hb hm ho ht hr hk hq0 ls H locs hl hw  
  obtain ⟨t, h1, h2⟩ := hw.2.2.2.2.2.1.1 _ hq
  exact va_gets hx hb h1 hw.2.2.2.1 ho (ht _ hlk) (fun _ h => h) d (kk t h2 hx hb hm ho ht hr hk hq0 ls H locs hl hw)
theorem tv_tald {t : Nat} {ta : List Int32} {i x : Int32} {j : Nat} (hT : va_T .int t ta.length (fun j => .int (ta.getD j 0)) (tc_A X G s.heap.size) s s.heap) (hi : tc_ix i ta.length j) (hv : ta.getD j 0 = x) (d : decode cc pc = .ok (.iaload, 1)) (kk : tc_V X G p l e R s m args below meth c cc nL Ts own ret hh Q cells slots u (pc + 1) lv (.int x :: rest)) : tc_V X G p l e R s m args below meth c cc nL Ts own ret hh Q cells slots u pc lv (.int i :: .ref t :: rest) :=
  fun hx hb hm ho ht hr hk hq0 ls H locs hl hw => va_ti hx hb hT hw.2.2.2.1 hi.in (by rw [hi.2.1, hv]) d (kk hx hb hm ho ht hr hk hq0 ls H locs hl hw)
/-- one row of numbers anew -/
def tc_rw (u : tc_S) (k : Nat) (f : Nat → Int32) : tc_S := fun k' => if k' = k then f else u k'
theorem tc_rw_ne {u : tc_S} {k j : Nat} {f : Nat → Int32} (h : j ≠ k) : tc_rw u k f j = u j := by unfold tc_rw; rw [if_neg h]
theorem tc_rw_eq {u : tc_S} {k : Nat} {f : Nat → Int32} : tc_rw u k f k = f := by unfold tc_rw; rw [if_pos rfl]
theorem tv_copy {k0 k1 n0 n1 index N : Nat} {li0 li1 : List Nat} {n : Int32} (hk0 : X.1[k0]? = some (0, n0, li0)) (hk1 : X.1[k1]? = some (0, n1, li1)) (hn : tc_ix n (N + 1) N) (hN0 : N ≤ n0) (hN1 : N ≤ n1) (hlk : Cond.methodLink own index arraycopyName ∈ Ts) (hnat : Cond.native arraycopyName ∈ Ts) (hsta : Cond.static arraycopyName ∈ Ts) (hini : Cond.initialized "java/lang/System" ∈ Ts) (hfr : 1 ≤ R.frames) (hlo : (rest.map fun v => v.category).sum + (nativeFrameWords "java/lang/System" "arraycopy" 5 + 11) ≤ R.locals) (d : decode cc pc = .ok (.invokestatic index, 3)) (kk : tc_V X G p l e R s m args below meth c cc nL Ts own ret hh Q cells slots (tc_rw u k1 (va_cpy (u k0) (u k1) 0 0 N)) (pc + 3) lv rest) : tc_V X G p l e R s m args below meth c cc nL Ts own ret hh Q cells slots u pc lv (.int n :: .int 0 :: .ref (tc_ad G k1) :: .int 0 :: .ref (tc_ad G k0) :: rest) := by
  intro hx hb hm ho ht hr hk hq0 ls H locs hl hw  
  have c0 : (0 : Int32).toNatClampNeg = 0 := by decide
  refine va_copyi (D := G.1) (cl := X.2.1) (ws := tc_w X G u) (ty := .int) hx hb (hm.trans hl.1.symm) ho (ht _ hlk) (ht _ hnat) (ht _ hsta) (ht _ hini) hw.2.1 hw.1 hw.2.2.1 hw.2.2.2.1 k0 k1 0 0 (tc_w_at hk0) (tc_w_at hk1) rfl rfl rfl (by decide) (by decide) hn.1 (by rw [c0, hn.2.1]; show 0 + N ≤ n0; omega) (by rw [c0, hn.2.1]; show 0 + N ≤ n1; omega) (fun i _ => rfl) hfr hlo d (fun H1 locs1 hP hD hS => ?_)
  rw [c0, hn.2.1] at hP hD
  have e : (tc_w X G u).set k1 (tc_ad G k1, tc_e G (tc_rw u k1 (va_cpy (u k0) (u k1) 0 0 N)) k1 (0, n1, li1)) = tc_w X G (tc_rw u k1 (va_cpy (u k0) (u k1) 0 0 N)) := tc_w_set hk1 (fun i hi => tc_rw_ne hi)
  have e1 : tc_e G (tc_rw u k1 (va_cpy (u k0) (u k1) 0 0 N)) k1 (0, n1, li1) = .inl (G.2.1.1, n1, .inl (va_cpy (u k0) (u k1) 0 0 N)) := by
    unfold tc_e
    simp only [tc_rw_eq]
  rw [e1] at e
  exact kk hx hb hm ho ht hr hk hq0 ls H1 locs1 hl ⟨by rw [← e]; exact hP, hw.2.1, by rw [← e]; exact hD, hS, hw.2.2.2.2⟩
theorem tv_iret {K : Outcome → tc_S → Prop} {mc ms : Nat} {x : Int32} (d : decode cc pc = .ok (.ireturn, 1)) (hret : ret = some .int) (hc : cells ≤ mc) (hs : slots ≤ ms) (hK : K (.returned (some (.int x))) u) : tc_V X G p l e R s m args below meth c cc nL Ts own ret hh (MQ below (tc_Qc X G K s.heap.size) args s mc ms (tc_A X G s.heap.size)) cells slots u pc lv [.int x] :=
  fun hx hb hm ho ht hr hk hq0 ls H locs hl hw => W.widen hc hs (W.iret hx hb (hr.trans hret) (fun t h1 hW => ⟨⟨u, hK, by rw [h1]; exact hw.1, va_K.moved hW.alike hw.2.1⟩, hw.2.2.2.1.F h1⟩) hw.2.2.2.1.2.2 d (hlocks := hk))
theorem tv_zret {K : Outcome → tc_S → Prop} {mc ms : Nat} {x : Int32} (d : decode cc pc = .ok (.ireturn, 1)) (hret : ret = some .boolean) (hc : cells ≤ mc) (hs : slots ≤ ms) (hz : narrow .boolean (.int x) = .int x) (hK : K (.returned (some (.int x))) u) : tc_V X G p l e R s m args below meth c cc nL Ts own ret hh (MQ below (tc_Qc X G K s.heap.size) args s mc ms (tc_A X G s.heap.size)) cells slots u pc lv [.int x] :=
  fun hx hb hm ho ht hr hk hq0 ls H locs hl hw => W.widen hc hs (W.zret hx hb (hr.trans hret) hz (fun t h1 hW => ⟨⟨u, hK, by rw [h1]; exact hw.1, va_K.moved hW.alike hw.2.1⟩, hw.2.2.2.1.F h1⟩) hw.2.2.2.1.2.2 d (hlocks := hk))
theorem tv_vret {K : Outcome → tc_S → Prop} {mc ms : Nat} (d : decode cc pc = .ok (.return_, 1)) (hret : ret = none) (hc : cells ≤ mc) (hs : slots ≤ ms) (hK : K (.returned none) u) : tc_V X G p l e R s m args below meth c cc nL Ts own ret hh (MQ below (tc_Qc X G K s.heap.size) args s mc ms (tc_A X G s.heap.size)) cells slots u pc lv [] :=
  fun hx hb hm ho ht hr hk hq0 ls H locs hl hw => W.widen hc hs (W.vret hx hb (hr.trans hret) (fun t h1 hW => ⟨⟨u, hK, by rw [h1]; exact hw.1, va_K.moved hW.alike hw.2.1⟩, hw.2.2.2.1.F h1⟩) hw.2.2.2.1.2.2 d (hlocks := hk))
theorem tv_aret {K : Outcome → tc_S → Prop} {mc ms : Nat} {a : Nat} {rt : FieldType} (d : decode cc pc = .ok (.areturn, 1)) (hret : ret = some rt) (hrt : (∃ n, rt = .object n) ∨ ∃ t, rt = .array t) (hc : cells ≤ mc) (hs : slots ≤ ms) (hK : K (.returned (some (.ref a))) u) : tc_V X G p l e R s m args below meth c cc nL Ts own ret hh (MQ below (tc_Qc X G K s.heap.size) args s mc ms (tc_A X G s.heap.size)) cells slots u pc lv [.ref a] :=
  fun hx hb hm ho ht hr hk hq0 ls H locs hl hw => W.widen hc hs (W.aret hx hb (hr.trans hret) hrt (Or.inr ⟨a, rfl⟩) (fun t h1 hW => ⟨⟨u, hK, by rw [h1]; exact hw.1, va_K.moved hW.alike hw.2.1⟩, hw.2.2.2.1.F h1⟩) hw.2.2.2.1.2.2 d (hlocks := hk))
theorem tc_A.up {sz sz' : Nat} (h : sz ≤ sz') (q : Nat) (hq : tc_A X G sz' q) : tc_A X G sz q := by
  rcases hq with hq | hq
  · exact Or.inl hq
  · exact Or.inr (Nat.le_trans h hq)
theorem tc_pre {H : Heap} {locs : List Loc} {av : List Value} (hw : tc_W X G (tc_A X G s.heap.size) s H locs u) (U : State) (hU : U.heap = H) (hW : s.WarmedH U.vm) : tc_Pc X G av u H.size av.toArray U := by
  obtain ⟨h1, h2, h3, h4, h5, h6, h7⟩ := hw
  refine ⟨rfl, by rw [hU], by rw [hU]; exact h1, va_K.moved hW.alike h2, h3.weaken (fun _ _ _ _ => trivial), ?_, h7.warm hW⟩
  rw [hU]
  exact ((h6.kept (H1 := H) (fun a _ hA => h4.2.1 a (by assumption) hA)).narrow (fun q hq => tc_A.up h4.1 q hq)).moved hW.alike
theorem tc_cont {H : Heap} {locs : List Loc} {ls : Array Slot} {st0 : List Value} {mc ms : Nat} {K : Outcome → tc_S → Prop} {a : Array Value} (hw : tc_W X G (tc_A X G s.heap.size) s H locs u)
    (hr : va_Run p l e R s m args below meth c H locs cells slots mc ms (F0 m pc ls st0) rest (tc_Qc X G K H.size a) (tc_A X G H.size))
    (kk : ∀ (v : Option Value) (u' : tc_S) (H1 : Heap) (locs1 : List Loc), K (.returned v) u' → tc_W X G (tc_A X G s.heap.size) s H1 locs1 u' → W p l e R s m args below meth c H1 locs1 (cells + mc) (slots + ms) Q (F0 m (pc + 3) ls (v.toList ++ rest))) : W p l e R s m args below meth c H locs cells slots Q (F0 m pc ls st0) := by
  obtain ⟨h1, h2, h3, h4, h5, h6, h7⟩ := hw
  intro T hT XT
  obtain ⟨v, st₀, t, T', L, h0, X', hL, e1, e2, ⟨⟨u', hK, hP', hK'⟩, hz, hkp⟩, st⟩ := hr T hT XT
  rw [h0] at hz hkp
  have hal : s.vm.Alike t.vm := by rw [← e2]; exact X'.warmed.alike
  obtain ⟨t2, a1, b1⟩ := kk v u' T'.heap (locs ++ L) hK
    ⟨by rw [e1]; exact hP', va_K.moved hal.symm hK', tc_D_of h3 (fun k hk => Or.inl ⟨k, hk, rfl⟩), ⟨Nat.le_trans h4.1 (by rw [e1]; exact hz), fun q hq hA => by
      rw [e1, hkp q (Nat.lt_of_lt_of_le hq h4.1) (fun z => hA (tc_A.up h4.1 q z))]; exact h4.2.1 q hq hA, fun q hq => by
      rcases List.mem_append.mp hq with h | h
      · exact h4.2.2 q h
      · exact tc_A.up h4.1 _ (hL q h)⟩, h5, h6, h7⟩ T' rfl X'
  exact ⟨t2, st t2 a1, b1⟩
theorem tc_recv {H : Heap} {locs : List Loc} {k ci N : Nat} {fl : List Nat} {C : String} {T : u_T} (hw : tc_W X G (tc_A X G s.heap.size) s H locs u) (hk0 : X.1[k]? = some (4, ci, fl)) (hc0 : X.2.1[ci]? = some (C, T, N)) : ∃ cell : Cell, H[tc_ad G k]? = some cell ∧ cell.vm.isStatics = false ∧ s.vm.findClass C = some cell.cls :=
  va_recv (D := G.1) (cl := X.2.1) (ws := tc_w X G u) (q := (C, T, N)) hw.2.1 hw.1 hc0 (tc_w_at hk0)
theorem tv_callV_g {b ci N index maxL mc ms n : Nat} {fl : List Nat} {C : String} {T : u_T} {y : MethodName} {ws : List Cond} {rm : Room} {bytes : ByteArray} {ret' : Option FieldType} (As : List Value) {K : Outcome → tc_S → Prop} (hk0 : X.1[b]? = some (4, ci, fl)) (hc0 : X.2.1[ci]? = some (C, T, N)) (hC : tc_C X G l y ws rm mc ms (.ref (tc_ad G b) :: As) u K) (cw : (∀ w ∈ Ts, w.before args s = true) → CallW R s args own C index y bytes maxL ret' ws rm mc ms n) (hn : As.length = n) (hW : (rest.map fun v => v.category).sum ≤ 8) (d : decode cc pc = .ok (.invokevirtual index, 3)) (hf : cells + mc ≤ R.cells ∧ slots + ms ≤ R.slots) (kk : ∀ (v : Option Value) (u' : tc_S), K (.returned v) u' → tc_V X G p l e R s m args below meth c cc nL Ts own ret hh Q (cells + mc) (slots + ms) u' (pc + 3) lv (v.toList ++ rest)) : tc_V X G p l e R s m args below meth c cc nL Ts own ret hh Q cells slots u pc lv (As.reverse ++ .ref (tc_ad G b) :: rest) := by
  intro hx hb hm ho ht hr hk hq0 ls H locs hl hw  
  exact tc_cont hw (va_runV (As := As) (rest := rest) ⟨hx, hb, hm, ho, ht⟩ (hC H.size) (cw ht) ⟨tc_blind, tc_recv hw hk0 hc0, tc_pre hw⟩ rfl hn hl.1 rfl (lv_room hW) d hf) (fun v u' H1 locs1 hK hw1 => kk v u' hK hx hb hm ho ht hr hk hq0 ls H1 locs1 hl hw1)
theorem tv_callVi {b ci N index maxL n : Nat} {fl : List Nat} {C : String} {T : u_T} {y : MethodName} {ws : List Cond} {rm : Room} {bytes : ByteArray} {ret' : Option FieldType} (As : List Value) {r : Int32} {u' : tc_S} (hk0 : X.1[b]? = some (4, ci, fl)) (hc0 : X.2.1[ci]? = some (C, T, N)) (hC : tc_C X G l y ws rm 0 0 (.ref (tc_ad G b) :: As) u (tc_Ki r u')) (cw : (∀ w ∈ Ts, w.before args s = true) → CallW R s args own C index y bytes maxL ret' ws rm 0 0 n) (hn : As.length = n) (hW : (rest.map fun v => v.category).sum ≤ 8) (d : decode cc pc = .ok (.invokevirtual index, 3)) (hf : cells + 0 ≤ R.cells ∧ slots + 0 ≤ R.slots) (kk : tc_V X G p l e R s m args below meth c cc nL Ts own ret hh Q cells slots u' (pc + 3) lv (.int r :: rest)) : tc_V X G p l e R s m args below meth c cc nL Ts own ret hh Q cells slots u pc lv (As.reverse ++ .ref (tc_ad G b) :: rest) :=
  tv_callV_g As hk0 hc0 hC cw hn hW d hf (fun v u2 hK => by obtain ⟨h1, h2⟩ := hK; cases h1; cases h2; exact kk)
theorem tv_callVv {b ci N index maxL n : Nat} {fl : List Nat} {C : String} {T : u_T} {y : MethodName} {ws : List Cond} {rm : Room} {bytes : ByteArray} {ret' : Option FieldType} (As : List Value) {u' : tc_S} (hk0 : X.1[b]? = some (4, ci, fl)) (hc0 : X.2.1[ci]? = some (C, T, N)) (hC : tc_C X G l y ws rm 0 0 (.ref (tc_ad G b) :: As) u (tc_Kv u')) (cw : (∀ w ∈ Ts, w.before args s = true) → CallW R s args own C index y bytes maxL ret' ws rm 0 0 n) (hn : As.length = n) (hW : (rest.map fun v => v.category).sum ≤ 8) (d : decode cc pc = .ok (.invokevirtual index, 3)) (hf : cells + 0 ≤ R.cells ∧ slots + 0 ≤ R.slots) (kk : tc_V X G p l e R s m args below meth c cc nL Ts own ret hh Q cells slots u' (pc + 3) lv (rest)) : tc_V X G p l e R s m args below meth c cc nL Ts own ret hh Q cells slots u pc lv (As.reverse ++ .ref (tc_ad G b) :: rest) :=
  tv_callV_g As hk0 hc0 hC cw hn hW d hf (fun v u2 hK => by obtain ⟨h1, h2⟩ := hK; cases h1; cases h2; exact kk)
theorem tv_callVr {b ci N index maxL n : Nat} {fl : List Nat} {C : String} {T : u_T} {y : MethodName} {ws : List Cond} {rm : Room} {bytes : ByteArray} {ret' : Option FieldType} (As : List Value) {r : Nat} {u' : tc_S} (hk0 : X.1[b]? = some (4, ci, fl)) (hc0 : X.2.1[ci]? = some (C, T, N)) (hC : tc_C X G l y ws rm 0 0 (.ref (tc_ad G b) :: As) u (tc_Kr r u')) (cw : (∀ w ∈ Ts, w.before args s = true) → CallW R s args own C index y bytes maxL ret' ws rm 0 0 n) (hn : As.length = n) (hW : (rest.map fun v => v.category).sum ≤ 8) (d : decode cc pc = .ok (.invokevirtual index, 3)) (hf : cells + 0 ≤ R.cells ∧ slots + 0 ≤ R.slots) (kk : tc_V X G p l e R s m args below meth c cc nL Ts own ret hh Q cells slots u' (pc + 3) lv (.ref r :: rest)) : tc_V X G p l e R s m args below meth c cc nL Ts own ret hh Q cells slots u pc lv (As.reverse ++ .ref (tc_ad G b) :: rest) :=
  tv_callV_g As hk0 hc0 hC cw hn hW d hf (fun v u2 hK => by obtain ⟨h1, h2⟩ := hK; cases h1; cases h2; exact kk)
theorem tv_callVN_g {b ci N index maxL mc ms n : Nat} {fl : List Nat} {C : String} {T : u_T} {y : MethodName} {ws : List Cond} {rm : Room} {bytes : ByteArray} {ret' : Option FieldType} (As : List Value) {host : String} {K : Outcome → tc_S → Prop} (hk0 : X.1[b]? = some (4, ci, fl)) (hc0 : X.2.1[ci]? = some (C, T, N)) (hC : tc_C X G l y ws rm mc ms (.ref (tc_ad G b) :: As) u K) (cw : (∀ w ∈ Ts, w.before args s = true) → tc_N X s → (va_CN R s args own index y host bytes maxL ret' ws rm mc ms n ∧ (Cond.instanceMethod y).before args s = true ∧ (Cond.selects C y y).before args s = true)) (hn : As.length = n) (hW : (rest.map fun v => v.category).sum ≤ 8) (d : decode cc pc = .ok (.invokevirtual index, 3)) (hf : cells + mc ≤ R.cells ∧ slots + ms ≤ R.slots) (kk : ∀ (v : Option Value) (u' : tc_S), K (.returned v) u' → tc_V X G p l e R s m args below meth c cc nL Ts own ret hh Q (cells + mc) (slots + ms) u' (pc + 3) lv (v.toList ++ rest)) : tc_V X G p l e R s m args below meth c cc nL Ts own ret hh Q cells slots u pc lv (As.reverse ++ .ref (tc_ad G b) :: rest) := by
  intro hx hb hm ho ht hr hk hq0 ls H locs hl hw  
  exact tc_cont hw (va_runVN (As := As) (rest := rest) ⟨hx, hb, hm, ho, ht⟩ (hC H.size) (cw ht hw.2.2.2.2.2.2) ⟨tc_blind, tc_recv hw hk0 hc0, tc_pre hw⟩ rfl hn hl.1 rfl (lv_room hW) d hf) (fun v u' H1 locs1 hK hw1 => kk v u' hK hx hb hm ho ht hr hk hq0 ls H1 locs1 hl hw1)
theorem tv_callVNi {b ci N index maxL n : Nat} {fl : List Nat} {C : String} {T : u_T} {y : MethodName} {ws : List Cond} {rm : Room} {bytes : ByteArray} {ret' : Option FieldType} (As : List Value) {host : String} {r : Int32} {u' : tc_S} (hk0 : X.1[b]? = some (4, ci, fl)) (hc0 : X.2.1[ci]? = some (C, T, N)) (hC : tc_C X G l y ws rm 0 0 (.ref (tc_ad G b) :: As) u (tc_Ki r u')) (cw : (∀ w ∈ Ts, w.before args s = true) → tc_N X s → (va_CN R s args own index y host bytes maxL ret' ws rm 0 0 n ∧ (Cond.instanceMethod y).before args s = true ∧ (Cond.selects C y y).before args s = true)) (hn : As.length = n) (hW : (rest.map fun v => v.category).sum ≤ 8) (d : decode cc pc = .ok (.invokevirtual index, 3)) (hf : cells + 0 ≤ R.cells ∧ slots + 0 ≤ R.slots) (kk : tc_V X G p l e R s m args below meth c cc nL Ts own ret hh Q cells slots u' (pc + 3) lv (.int r :: rest)) : tc_V X G p l e R s m args below meth c cc nL Ts own ret hh Q cells slots u pc lv (As.reverse ++ .ref (tc_ad G b) :: rest) :=
  tv_callVN_g As hk0 hc0 hC cw hn hW d hf (fun v u2 hK => by obtain ⟨h1, h2⟩ := hK; cases h1; cases h2; exact kk)
theorem tv_callVNv {b ci N index maxL n : Nat} {fl : List Nat} {C : String} {T : u_T} {y : MethodName} {ws : List Cond} {rm : Room} {bytes : ByteArray} {ret' : Option FieldType} (As : List Value) {host : String} {u' : tc_S} (hk0 : X.1[b]? = some (4, ci, fl)) (hc0 : X.2.1[ci]? = some (C, T, N)) (hC : tc_C X G l y ws rm 0 0 (.ref (tc_ad G b) :: As) u (tc_Kv u')) (cw : (∀ w ∈ Ts, w.before args s = true) → tc_N X s → (va_CN R s args own index y host bytes maxL ret' ws rm 0 0 n ∧ (Cond.instanceMethod y).before args s = true ∧ (Cond.selects C y y).before args s = true)) (hn : As.length = n) (hW : (rest.map fun v => v.category).sum ≤ 8) (d : decode cc pc = .ok (.invokevirtual index, 3)) (hf : cells + 0 ≤ R.cells ∧ slots + 0 ≤ R.slots) (kk : tc_V X G p l e R s m args below meth c cc nL Ts own ret hh Q cells slots u' (pc + 3) lv (rest)) : tc_V X G p l e R s m args below meth c cc nL Ts own ret hh Q cells slots u pc lv (As.reverse ++ .ref (tc_ad G b) :: rest) :=
  tv_callVN_g As hk0 hc0 hC cw hn hW d hf (fun v u2 hK => by obtain ⟨h1, h2⟩ := hK; cases h1; cases h2; exact kk)
theorem tv_callVNr {b ci N index maxL n : Nat} {fl : List Nat} {C : String} {T : u_T} {y : MethodName} {ws : List Cond} {rm : Room} {bytes : ByteArray} {ret' : Option FieldType} (As : List Value) {host : String} {r : Nat} {u' : tc_S} (hk0 : X.1[b]? = some (4, ci, fl)) (hc0 : X.2.1[ci]? = some (C, T, N)) (hC : tc_C X G l y ws rm 0 0 (.ref (tc_ad G b) :: As) u (tc_Kr r u')) (cw : (∀ w ∈ Ts, w.before args s = true) → tc_N X s → (va_CN R s args own index y host bytes maxL ret' ws rm 0 0 n ∧ (Cond.instanceMethod y).before args s = true ∧ (Cond.selects C y y).before args s = true)) (hn : As.length = n) (hW : (rest.map fun v => v.category).sum ≤ 8) (d : decode cc pc = .ok (.invokevirtual index, 3)) (hf : cells + 0 ≤ R.cells ∧ slots + 0 ≤ R.slots) (kk : tc_V X G p l e R s m args below meth c cc nL Ts own ret hh Q cells slots u' (pc + 3) lv (.ref r :: rest)) : tc_V X G p l e R s m args below meth c cc nL Ts own ret hh Q cells slots u pc lv (As.reverse ++ .ref (tc_ad G b) :: rest) :=
  tv_callVN_g As hk0 hc0 hC cw hn hW d hf (fun v u2 hK => by obtain ⟨h1, h2⟩ := hK; cases h1; cases h2; exact kk)
theorem tv_callS_g {index maxL mc ms n : Nat} {y : MethodName} {ws : List Cond} {rm : Room} {bytes : ByteArray} {ret' : Option FieldType} (As : List Value) {K : Outcome → tc_S → Prop} (hC : tc_C X G l y ws rm mc ms (As) u K) (cw : (∀ w ∈ Ts, w.before args s = true) → (CallB R s args own index y bytes maxL ret' ws rm mc ms n ∧ (Cond.static y).before args s = true)) (hn : As.length = n) (hW : (rest.map fun v => v.category).sum ≤ 8) (d : decode cc pc = .ok (.invokestatic index, 3)) (hf : cells + mc ≤ R.cells ∧ slots + ms ≤ R.slots) (kk : ∀ (v : Option Value) (u' : tc_S), K (.returned v) u' → tc_V X G p l e R s m args below meth c cc nL Ts own ret hh Q (cells + mc) (slots + ms) u' (pc + 3) lv (v.toList ++ rest)) : tc_V X G p l e R s m args below meth c cc nL Ts own ret hh Q cells slots u pc lv (As.reverse ++ rest) := by
  intro hx hb hm ho ht hr hk hq0 ls H locs hl hw  
  exact tc_cont hw (va_runS (As := As) (rest := rest) ⟨hx, hb, hm, ho, ht⟩ (hC H.size) (cw ht) ⟨tc_blind, tc_pre hw⟩ rfl hn hl.1 rfl (lv_room hW) d hf) (fun v u' H1 locs1 hK hw1 => kk v u' hK hx hb hm ho ht hr hk hq0 ls H1 locs1 hl hw1)
theorem tv_callSi {index maxL n : Nat} {y : MethodName} {ws : List Cond} {rm : Room} {bytes : ByteArray} {ret' : Option FieldType} (As : List Value) {r : Int32} {u' : tc_S} (hC : tc_C X G l y ws rm 0 0 (As) u (tc_Ki r u')) (cw : (∀ w ∈ Ts, w.before args s = true) → (CallB R s args own index y bytes maxL ret' ws rm 0 0 n ∧ (Cond.static y).before args s = true)) (hn : As.length = n) (hW : (rest.map fun v => v.category).sum ≤ 8) (d : decode cc pc = .ok (.invokestatic index, 3)) (hf : cells + 0 ≤ R.cells ∧ slots + 0 ≤ R.slots) (kk : tc_V X G p l e R s m args below meth c cc nL Ts own ret hh Q cells slots u' (pc + 3) lv (.int r :: rest)) : tc_V X G p l e R s m args below meth c cc nL Ts own ret hh Q cells slots u pc lv (As.reverse ++ rest) :=
  tv_callS_g As hC cw hn hW d hf (fun v u2 hK => by obtain ⟨h1, h2⟩ := hK; cases h1; cases h2; exact kk)
theorem tv_callSv {index maxL n : Nat} {y : MethodName} {ws : List Cond} {rm : Room} {bytes : ByteArray} {ret' : Option FieldType} (As : List Value) {u' : tc_S} (hC : tc_C X G l y ws rm 0 0 (As) u (tc_Kv u')) (cw : (∀ w ∈ Ts, w.before args s = true) → (CallB R s args own index y bytes maxL ret' ws rm 0 0 n ∧ (Cond.static y).before args s = true)) (hn : As.length = n) (hW : (rest.map fun v => v.category).sum ≤ 8) (d : decode cc pc = .ok (.invokestatic index, 3)) (hf : cells + 0 ≤ R.cells ∧ slots + 0 ≤ R.slots) (kk : tc_V X G p l e R s m args below meth c cc nL Ts own ret hh Q cells slots u' (pc + 3) lv (rest)) : tc_V X G p l e R s m args below meth c cc nL Ts own ret hh Q cells slots u pc lv (As.reverse ++ rest) :=
  tv_callS_g As hC cw hn hW d hf (fun v u2 hK => by obtain ⟨h1, h2⟩ := hK; cases h1; cases h2; exact kk)
theorem tv_callSr {index maxL n : Nat} {y : MethodName} {ws : List Cond} {rm : Room} {bytes : ByteArray} {ret' : Option FieldType} (As : List Value) {r : Nat} {u' : tc_S} (hC : tc_C X G l y ws rm 0 0 (As) u (tc_Kr r u')) (cw : (∀ w ∈ Ts, w.before args s = true) → (CallB R s args own index y bytes maxL ret' ws rm 0 0 n ∧ (Cond.static y).before args s = true)) (hn : As.length = n) (hW : (rest.map fun v => v.category).sum ≤ 8) (d : decode cc pc = .ok (.invokestatic index, 3)) (hf : cells + 0 ≤ R.cells ∧ slots + 0 ≤ R.slots) (kk : tc_V X G p l e R s m args below meth c cc nL Ts own ret hh Q cells slots u' (pc + 3) lv (.ref r :: rest)) : tc_V X G p l e R s m args below meth c cc nL Ts own ret hh Q cells slots u pc lv (As.reverse ++ rest) :=
  tv_callS_g As hC cw hn hW d hf (fun v u2 hK => by obtain ⟨h1, h2⟩ := hK; cases h1; cases h2; exact kk)
theorem tv_callSN_g {index maxL mc ms n : Nat} {y : MethodName} {ws : List Cond} {rm : Room} {bytes : ByteArray} {ret' : Option FieldType} (As : List Value) {host : String} {K : Outcome → tc_S → Prop} (hC : tc_C X G l y ws rm mc ms (As) u K) (cw : (∀ w ∈ Ts, w.before args s = true) → tc_N X s → (va_CN R s args own index y host bytes maxL ret' ws rm mc ms n ∧ (Cond.static y).before args s = true ∧ True)) (hn : As.length = n) (hW : (rest.map fun v => v.category).sum ≤ 8) (d : decode cc pc = .ok (.invokestatic index, 3)) (hf : cells + mc ≤ R.cells ∧ slots + ms ≤ R.slots) (kk : ∀ (v : Option Value) (u' : tc_S), K (.returned v) u' → tc_V X G p l e R s m args below meth c cc nL Ts own ret hh Q (cells + mc) (slots + ms) u' (pc + 3) lv (v.toList ++ rest)) : tc_V X G p l e R s m args below meth c cc nL Ts own ret hh Q cells slots u pc lv (As.reverse ++ rest) := by
  intro hx hb hm ho ht hr hk hq0 ls H locs hl hw  
  exact tc_cont hw (va_runSN (As := As) (rest := rest) ⟨hx, hb, hm, ho, ht⟩ (hC H.size) (cw ht hw.2.2.2.2.2.2) ⟨tc_blind, tc_pre hw⟩ rfl hn hl.1 rfl (lv_room hW) d hf) (fun v u' H1 locs1 hK hw1 => kk v u' hK hx hb hm ho ht hr hk hq0 ls H1 locs1 hl hw1)
theorem tv_callSNi {index maxL n : Nat} {y : MethodName} {ws : List Cond} {rm : Room} {bytes : ByteArray} {ret' : Option FieldType} (As : List Value) {host : String} {r : Int32} {u' : tc_S} (hC : tc_C X G l y ws rm 0 0 (As) u (tc_Ki r u')) (cw : (∀ w ∈ Ts, w.before args s = true) → tc_N X s → (va_CN R s args own index y host bytes maxL ret' ws rm 0 0 n ∧ (Cond.static y).before args s = true ∧ True)) (hn : As.length = n) (hW : (rest.map fun v => v.category).sum ≤ 8) (d : decode cc pc = .ok (.invokestatic index, 3)) (hf : cells + 0 ≤ R.cells ∧ slots + 0 ≤ R.slots) (kk : tc_V X G p l e R s m args below meth c cc nL Ts own ret hh Q cells slots u' (pc + 3) lv (.int r :: rest)) : tc_V X G p l e R s m args below meth c cc nL Ts own ret hh Q cells slots u pc lv (As.reverse ++ rest) :=
  tv_callSN_g As hC cw hn hW d hf (fun v u2 hK => by obtain ⟨h1, h2⟩ := hK; cases h1; cases h2; exact kk)
theorem tv_callSNv {index maxL n : Nat} {y : MethodName} {ws : List Cond} {rm : Room} {bytes : ByteArray} {ret' : Option FieldType} (As : List Value) {host : String} {u' : tc_S} (hC : tc_C X G l y ws rm 0 0 (As) u (tc_Kv u')) (cw : (∀ w ∈ Ts, w.before args s = true) → tc_N X s → (va_CN R s args own index y host bytes maxL ret' ws rm 0 0 n ∧ (Cond.static y).before args s = true ∧ True)) (hn : As.length = n) (hW : (rest.map fun v => v.category).sum ≤ 8) (d : decode cc pc = .ok (.invokestatic index, 3)) (hf : cells + 0 ≤ R.cells ∧ slots + 0 ≤ R.slots) (kk : tc_V X G p l e R s m args below meth c cc nL Ts own ret hh Q cells slots u' (pc + 3) lv (rest)) : tc_V X G p l e R s m args below meth c cc nL Ts own ret hh Q cells slots u pc lv (As.reverse ++ rest) :=
  tv_callSN_g As hC cw hn hW d hf (fun v u2 hK => by obtain ⟨h1, h2⟩ := hK; cases h1; cases h2; exact kk)
theorem tv_callSNr {index maxL n : Nat} {y : MethodName} {ws : List Cond} {rm : Room} {bytes : ByteArray} {ret' : Option FieldType} (As : List Value) {host : String} {r : Nat} {u' : tc_S} (hC : tc_C X G l y ws rm 0 0 (As) u (tc_Kr r u')) (cw : (∀ w ∈ Ts, w.before args s = true) → tc_N X s → (va_CN R s args own index y host bytes maxL ret' ws rm 0 0 n ∧ (Cond.static y).before args s = true ∧ True)) (hn : As.length = n) (hW : (rest.map fun v => v.category).sum ≤ 8) (d : decode cc pc = .ok (.invokestatic index, 3)) (hf : cells + 0 ≤ R.cells ∧ slots + 0 ≤ R.slots) (kk : tc_V X G p l e R s m args below meth c cc nL Ts own ret hh Q cells slots u' (pc + 3) lv (.ref r :: rest)) : tc_V X G p l e R s m args below meth c cc nL Ts own ret hh Q cells slots u pc lv (As.reverse ++ rest) :=
  tv_callSN_g As hC cw hn hW d hf (fun v u2 hK => by obtain ⟨h1, h2⟩ := hK; cases h1; cases h2; exact kk)
theorem tv_callU_g {b ci N index maxL mc ms n : Nat} {fl : List Nat} {C : String} {T : u_T} {y : MethodName} {ws : List Cond} {rm : Room} {bytes : ByteArray} {ret' : Option FieldType} (As : List Value) {owner : String} {x : MethodName} {K : Outcome → tc_S → Prop} (hk0 : X.1[b]? = some (4, ci, fl)) (hc0 : X.2.1[ci]? = some (C, T, N)) (hC : tc_C X G l y ws rm mc ms (.ref (tc_ad G b) :: As) u K) (cw : (∀ w ∈ Ts, w.before args s = true) → tc_N X s → va_CU R s args own C owner index x y bytes maxL ret' ws rm mc ms n) (hn : As.length = n) (hW : (rest.map fun v => v.category).sum ≤ 8) (d : decode cc pc = .ok (.invokevirtual index, 3)) (hf : cells + mc ≤ R.cells ∧ slots + ms ≤ R.slots) (kk : ∀ (v : Option Value) (u' : tc_S), K (.returned v) u' → tc_V X G p l e R s m args below meth c cc nL Ts own ret hh Q (cells + mc) (slots + ms) u' (pc + 3) lv (v.toList ++ rest)) : tc_V X G p l e R s m args below meth c cc nL Ts own ret hh Q cells slots u pc lv (As.reverse ++ .ref (tc_ad G b) :: rest) := by
  intro hx hb hm ho ht hr hk hq0 ls H locs hl hw  
  exact tc_cont hw (va_runU (As := As) (rest := rest) ⟨hx, hb, hm, ho, ht⟩ (hC H.size) (cw ht hw.2.2.2.2.2.2) ⟨tc_blind, tc_recv hw hk0 hc0, tc_pre hw⟩ rfl hn hl.1 rfl (lv_room hW) d hf) (fun v u' H1 locs1 hK hw1 => kk v u' hK hx hb hm ho ht hr hk hq0 ls H1 locs1 hl hw1)
theorem tv_callUi {b ci N index maxL n : Nat} {fl : List Nat} {C : String} {T : u_T} {y : MethodName} {ws : List Cond} {rm : Room} {bytes : ByteArray} {ret' : Option FieldType} (As : List Value) {owner : String} {x : MethodName} {r : Int32} {u' : tc_S} (hk0 : X.1[b]? = some (4, ci, fl)) (hc0 : X.2.1[ci]? = some (C, T, N)) (hC : tc_C X G l y ws rm 0 0 (.ref (tc_ad G b) :: As) u (tc_Ki r u')) (cw : (∀ w ∈ Ts, w.before args s = true) → tc_N X s → va_CU R s args own C owner index x y bytes maxL ret' ws rm 0 0 n) (hn : As.length = n) (hW : (rest.map fun v => v.category).sum ≤ 8) (d : decode cc pc = .ok (.invokevirtual index, 3)) (hf : cells + 0 ≤ R.cells ∧ slots + 0 ≤ R.slots) (kk : tc_V X G p l e R s m args below meth c cc nL Ts own ret hh Q cells slots u' (pc + 3) lv (.int r :: rest)) : tc_V X G p l e R s m args below meth c cc nL Ts own ret hh Q cells slots u pc lv (As.reverse ++ .ref (tc_ad G b) :: rest) :=
  tv_callU_g As hk0 hc0 hC cw hn hW d hf (fun v u2 hK => by obtain ⟨h1, h2⟩ := hK; cases h1; cases h2; exact kk)
theorem tv_callUv {b ci N index maxL n : Nat} {fl : List Nat} {C : String} {T : u_T} {y : MethodName} {ws : List Cond} {rm : Room} {bytes : ByteArray} {ret' : Option FieldType} (As : List Value) {owner : String} {x : MethodName} {u' : tc_S} (hk0 : X.1[b]? = some (4, ci, fl)) (hc0 : X.2.1[ci]? = some (C, T, N)) (hC : tc_C X G l y ws rm 0 0 (.ref (tc_ad G b) :: As) u (tc_Kv u')) (cw : (∀ w ∈ Ts, w.before args s = true) → tc_N X s → va_CU R s args own C owner index x y bytes maxL ret' ws rm 0 0 n) (hn : As.length = n) (hW : (rest.map fun v => v.category).sum ≤ 8) (d : decode cc pc = .ok (.invokevirtual index, 3)) (hf : cells + 0 ≤ R.cells ∧ slots + 0 ≤ R.slots) (kk : tc_V X G p l e R s m args below meth c cc nL Ts own ret hh Q cells slots u' (pc + 3) lv (rest)) : tc_V X G p l e R s m args below meth c cc nL Ts own ret hh Q cells slots u pc lv (As.reverse ++ .ref (tc_ad G b) :: rest) :=
  tv_callU_g As hk0 hc0 hC cw hn hW d hf (fun v u2 hK => by obtain ⟨h1, h2⟩ := hK; cases h1; cases h2; exact kk)
theorem tv_callUr {b ci N index maxL n : Nat} {fl : List Nat} {C : String} {T : u_T} {y : MethodName} {ws : List Cond} {rm : Room} {bytes : ByteArray} {ret' : Option FieldType} (As : List Value) {owner : String} {x : MethodName} {r : Nat} {u' : tc_S} (hk0 : X.1[b]? = some (4, ci, fl)) (hc0 : X.2.1[ci]? = some (C, T, N)) (hC : tc_C X G l y ws rm 0 0 (.ref (tc_ad G b) :: As) u (tc_Kr r u')) (cw : (∀ w ∈ Ts, w.before args s = true) → tc_N X s → va_CU R s args own C owner index x y bytes maxL ret' ws rm 0 0 n) (hn : As.length = n) (hW : (rest.map fun v => v.category).sum ≤ 8) (d : decode cc pc = .ok (.invokevirtual index, 3)) (hf : cells + 0 ≤ R.cells ∧ slots + 0 ≤ R.slots) (kk : tc_V X G p l e R s m args below meth c cc nL Ts own ret hh Q cells slots u' (pc + 3) lv (.ref r :: rest)) : tc_V X G p l e R s m args below meth c cc nL Ts own ret hh Q cells slots u pc lv (As.reverse ++ .ref (tc_ad G b) :: rest) :=
  tv_callU_g As hk0 hc0 hC cw hn hW d hf (fun v u2 hK => by obtain ⟨h1, h2⟩ := hK; cases h1; cases h2; exact kk)
end TV
theorem tc_noH {p : Program} {l : Launch} {y : MethodName} {ws : List Cond} {rm : Room} {cc : ByteArray} {nL : Nat} {ret : Option FieldType} {e : Env} {s : State} {m : MethodId} {args : Array Value} {below : List Frame} {meth : Method} {c : Code} {s₁ : State}
    (B : BodyLoose p l y (headSpec ws rm) cc nL ret e s m args below meth c s₁) (h : Cond.code y cc nL ret ∈ ws) : c.exceptionTable.toList.map (fun h => (h.startPc, h.endPc, h.handlerPc, h.catchType)) = [] := by
  obtain ⟨meth', c', h1, h2, -, -, -, -, h3, -⟩ := Cond.code_spec B.named (atoms_spec (ws := ws) B.pre _ h)
  cases B.method.symm.trans h1
  cases (Stand.of_body B).code.symm.trans h2
  rw [Array.isEmpty_iff] at h3
  rw [h3]
  rfl
/-- a contract out of a walk -/
theorem tc_ofV {X : tc_X} {G : tc_G} {l : Launch} {y : MethodName} {ws ws' : List Cond} {rm : Room} {mc ms nL : Nat} {cc : ByteArray} {ret : Option FieldType} {av : List Value} {u : tc_S} {K : Outcome → tc_S → Prop} (lv : List (Option Value))
    (hy : plainName y.cls = true) (hw : ws = Cond.code y cc nL ret :: ws') (hn : (lg_sl av).length ≤ nL) (hlv : lv_args 0 av = tc_as 0 lv)
    (body : ∀ (p : Program) (e : Env) (s : State) (m : MethodId) (args : Array Value) (below : List Frame) (meth : Method) (c : Code), tc_V X G p l e rm s m args below meth c cc nL ws y.cls ret [] (MQ below (tc_Qc X G K s.heap.size) args s mc ms (tc_A X G s.heap.size)) 0 0 u 0 lv []) : tc_C X G l y ws rm mc ms av u K := by
  intro sz
  refine Met.ofW (cc := cc) (maxL := nL) (ret := ret) hy hw ?_
  intro p e s m args below meth c s₁ B hml hv
  obtain ⟨rfl, hsz, hP, hK, hD, hZ, hN⟩ := hv
  subst hsz
  have hl := lv_entry av hn
  rw [lg_entry_eq]
  rw [hlv] at hl
  exact body p e s m _ below meth c B.exec B.bytes hml (findClass_of_methodNamed B.named) (atoms_spec (ws := ws) B.pre) B.returns B.notSynchronized (tc_noH B (by rw [hw]; exact List.mem_cons_self)) _ s.heap [] hl
    ⟨hP, hK, tc_D_of hD (fun k hk => Or.inl ⟨k, hk, rfl⟩), va_S.rf, fun q h => Or.inr h, hZ, hN⟩
