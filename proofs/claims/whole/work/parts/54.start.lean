/-- the switch's value -/
theorem sw_k (x : Int32) : ∃ k : Nat, k < 32 ∧ x &&& 31 = nI k := by
  refine ⟨(x &&& 31).toNatClampNeg, ?_, ?_⟩
  · have h1 : (x &&& 31).toBitVec.toNat = x.toBitVec.toNat &&& 31 := by rw [Int32.toBitVec_and, BitVec.toNat_and]; rfl
    have h2 : x.toBitVec.toNat &&& 31 ≤ 31 := Nat.and_le_right
    have h3 : (x &&& 31).toInt = ((x &&& 31).toBitVec.toNat : Int) := by
      show (x &&& 31).toBitVec.toInt = _
      rw [BitVec.toInt_eq_toNat_of_lt (by omega)]
    show (x &&& 31).toInt.toNat < 32
    omega
  · have h1 : (x &&& 31).toBitVec.toNat = x.toBitVec.toNat &&& 31 := by rw [Int32.toBitVec_and, BitVec.toNat_and]; rfl
    have h2 : x.toBitVec.toNat &&& 31 ≤ 31 := Nat.and_le_right
    have h3 : (x &&& 31).toInt = ((x &&& 31).toBitVec.toNat : Int) := by
      show (x &&& 31).toBitVec.toInt = _
      rw [BitVec.toInt_eq_toNat_of_lt (by omega)]
    apply Int32.toInt_inj.mp
    rw [nI_toInt (by show (x &&& 31).toInt.toNat < _; omega)]
    show (x &&& 31).toInt = (((x &&& 31).toInt.toNat : Nat) : Int)
    omega
theorem sc_gt {L i : Nat} (hL : L ≤ 2048) (hi : i ≤ 4096) : nI L - 4 < nI i ↔ ¬ i + 4 ≤ L := by
  have h4 : (nI L - 4).toInt = (L : Int) - 4 := by
    rw [show (4 : Int32) = nI 4 from rfl, Int32.toInt_sub, nI_toInt (by omega), nI_toInt (by omega)]
    rw [Int.bmod_def]
    omega
  rw [Int32.lt_iff_toInt_lt, h4, nI_toInt (by omega)]
  omega
set_option maxRecDepth 100000 in
set_option maxHeartbeats 4000000 in
theorem law_loop {p : Program} {e : Env} {s : State} {m : MethodId} {args : Array Value} {below : List Frame} {meth : Method} {c : Code} {Q : State → Prop} {hh : List (Nat × Nat × Nat × Nat)} (l : Launch) (hl : l.stackTraces = false) (G : tc_G) {sa L0 : Nat} {xs : Nat → Int32} (hL : L0 ≤ 2048) (hX : va_X sa L0 xs s s.heap) (hbl : sa < s.heap.size) (hbA : ¬ tc_A tcx G s.heap.size sa)
    (fin : ∀ (cells slots i : Nat) (a5 a6 : Option Value) (u : tc_S), cells ≤ 601024 → slots ≤ 7293034 → tc_V tcx G p l e room_1 s m args below meth c bL_law 7 tw "TracedCodeLaw" (some .boolean) hh Q cells slots u 1206 [some (.ref sa), some (.ref (tc_ad G 0)), some (.ref (tc_ad G 56)), some (.ref (tc_ad G 76)), some (.int (nI i)), a5, a6] []) : ∀ (f i cells slots : Nat) (a5 a6 : Option Value) (u : tc_S), L0 ≤ i + 4 * f → i ≤ 4096 → cells + f ≤ 601024 → slots + 6 * f ≤ 7293034 → (∃ n, jI n u) → tc_V tcx G p l e room_1 s m args below meth c bL_law 7 tw "TracedCodeLaw" (some .boolean) hh Q cells slots u 23 [some (.ref sa), some (.ref (tc_ad G 0)), some (.ref (tc_ad G 56)), some (.ref (tc_ad G 76)), some (.int (nI i)), a5, a6] [] := by
  intro f
  induction f with
  | zero =>
    intro i cells slots a5 a6 u h1 h2 h3 h4 hj
    refine tv_iload (pc := 23) dL_law_23 (by rfl) ?_
    refine tv_aload_n (pc := 25) dL_law_25 (by rfl) ?_
    refine tv_slen (pc := 26) hX hbl hbA dL_law_26 ?_
    refine tv_iconst (v := 4) (pc := 27) dL_law_27 (by decide) ?_
    refine tv_isub (pc := 28) dL_law_28 ?_
    refine tv_icmp_gt (pc := 29) 1206 dL_law_29 (by decide) (fun _ => ?_) (fun h => absurd ((sc_gt hL h2).mpr (by omega)) h)
    exact fin cells slots i a5 a6 u (by omega) (by omega)
  | succ f ih =>
    intro i cells slots a5 a6 u h1 h2 h3 h4 hj
    refine tv_iload (pc := 23) dL_law_23 (by rfl) ?_
    refine tv_aload_n (pc := 25) dL_law_25 (by rfl) ?_
    refine tv_slen (pc := 26) hX hbl hbA dL_law_26 ?_
    refine tv_iconst (v := 4) (pc := 27) dL_law_27 (by decide) ?_
    refine tv_isub (pc := 28) dL_law_28 ?_
    refine tv_icmp_gt (pc := 29) 1206 dL_law_29 (by decide) (fun _ => ?_) (fun hlt => ?_)
    · exact fin cells slots i a5 a6 u (by omega) (by omega)
    · have hi4 : i + 4 ≤ L0 := Classical.byContradiction fun q => hlt ((sc_gt hL h2).mpr q)
      have hi0 : tc_ix (nI i) L0 i := tc_ixN (by omega) (by omega)
      have hi1 : tc_ix (nI i + 1) L0 (i + 1) := sc_ix (a := 1) hL (by omega)
      have hi2 : tc_ix (nI i + 2) L0 (i + 2) := sc_ix (a := 2) hL (by omega)
      have hi3 : tc_ix (nI i + 3) L0 (i + 3) := sc_ix (a := 3) hL (by omega)
      have hf : cells + 1 ≤ room_1.cells ∧ slots + 6 ≤ room_1.slots := ⟨by show _ ≤ 601024; omega, by show _ ≤ 7293034; omega⟩
      obtain ⟨n, h⟩ := hj
      have next : ∀ (c0 s0 : Nat) (a5 a6 : Option Value) (w : tc_S), c0 ≤ cells + 1 → s0 ≤ slots + 6 → (∃ n, jI n w) → tc_V tcx G p l e room_1 s m args below meth c bL_law 7 tw "TracedCodeLaw" (some .boolean) hh Q c0 s0 w 1200 [some (.ref sa), some (.ref (tc_ad G 0)), some (.ref (tc_ad G 56)), some (.ref (tc_ad G 76)), some (.int (nI i)), a5, a6] [] := by
        intro c0 s0 a5 a6 w q1 q2 q3
        refine tv_iinc4 (v := 4) (pc := 1200) dL_law_1200 (by decide) (by rfl) ?_
        refine tv_goto (pc := 1203) 23 dL_law_1203 (by decide) ?_
        have key := ih (i + 4) c0 s0 a5 a6 w (by omega) (by omega) (by omega) (by omega) q3
        rw [← nI_add i 4] at key
        exact key
      refine tv_aload_n (pc := 32) dL_law_32 (by rfl) ?_
      refine tv_iload (pc := 33) dL_law_33 (by rfl) ?_
      refine tv_sald (pc := 35) hX hbl hbA hi0 dL_law_35 ?_
      refine tv_bipush (v := 31) (pc := 36) dL_law_36 (by decide) ?_
      refine tv_iand (pc := 38) dL_law_38 ?_
      obtain ⟨k, hk, ek⟩ := sw_k (xs i)
      rw [ek]
      by_cases h19 : 19 ≤ k
      · refine tv_tableOut (pc := 39) 1200 dL_law_39 (Or.inr (by rw [nI_toInt (by omega)]; omega)) (by decide) ?_
        exact next cells slots a5 a6 u (by omega) (by omega) ⟨n, h⟩
      · have : k = 0 ∨ k = 1 ∨ k = 2 ∨ k = 3 ∨ k = 4 ∨ k = 5 ∨ k = 6 ∨ k = 7 ∨ k = 8 ∨ k = 9 ∨ k = 10 ∨ k = 11 ∨ k = 12 ∨ k = 13 ∨ k = 14 ∨ k = 15 ∨ k = 16 ∨ k = 17 ∨ k = 18 := by omega
        rcases this with rfl | rfl | rfl | rfl | rfl | rfl | rfl | rfl | rfl | rfl | rfl | rfl | rfl | rfl | rfl | rfl | rfl | rfl | rfl
        · refine tv_tableIn (pc := 39) 128 dL_law_39 (by decide) (by decide) (by rfl) (by decide) ?_
          exact law_c0 l hl G u h hX hbl hbA hi1 hi2 hi3 hf a5 a6 next
        · refine tv_tableIn (pc := 39) 196 dL_law_39 (by decide) (by decide) (by rfl) (by decide) ?_
          exact law_c1 l hl G u h hX hbl hbA hi1 hi2 hi3 hf a5 a6 next
        · refine tv_tableIn (pc := 39) 264 dL_law_39 (by decide) (by decide) (by rfl) (by decide) ?_
          exact law_c2 l hl G u h hX hbl hbA hi1 hi2 hi3 hf a5 a6 next
        · refine tv_tableIn (pc := 39) 344 dL_law_39 (by decide) (by decide) (by rfl) (by decide) ?_
          exact law_c3 l hl G u h hX hbl hbA hi1 hi2 hi3 hf a5 a6 next
        · refine tv_tableIn (pc := 39) 400 dL_law_39 (by decide) (by decide) (by rfl) (by decide) ?_
          exact law_c4 l hl G u h hX hbl hbA hi1 hi2 hi3 hf a5 a6 next
        · refine tv_tableIn (pc := 39) 468 dL_law_39 (by decide) (by decide) (by rfl) (by decide) ?_
          exact law_c5 l hl G u h hX hbl hbA hi1 hi2 hi3 hf a5 a6 next
        · refine tv_tableIn (pc := 39) 536 dL_law_39 (by decide) (by decide) (by rfl) (by decide) ?_
          exact law_c6 l hl G u h hX hbl hbA hi1 hi2 hi3 hf a5 a6 next
        · refine tv_tableIn (pc := 39) 547 dL_law_39 (by decide) (by decide) (by rfl) (by decide) ?_
          exact law_c7 l hl G u h hX hbl hbA hi1 hi2 hi3 hf a5 a6 next
        · refine tv_tableIn (pc := 39) 560 dL_law_39 (by decide) (by decide) (by rfl) (by decide) ?_
          exact law_c8 l hl G u h hX hbl hbA hi1 hi2 hi3 hf a5 a6 next
        · refine tv_tableIn (pc := 39) 604 dL_law_39 (by decide) (by decide) (by rfl) (by decide) ?_
          exact law_c9 l hl G u h hX hbl hbA hi1 hi2 hi3 hf a5 a6 next
        · refine tv_tableIn (pc := 39) 672 dL_law_39 (by decide) (by decide) (by rfl) (by decide) ?_
          exact law_c10 l hl G u h hX hbl hbA hi1 hi2 hi3 hf a5 a6 next
        · refine tv_tableIn (pc := 39) 740 dL_law_39 (by decide) (by decide) (by rfl) (by decide) ?_
          exact law_c11 l hl G u h hX hbl hbA hi1 hi2 hi3 hf a5 a6 next
        · refine tv_tableIn (pc := 39) 808 dL_law_39 (by decide) (by decide) (by rfl) (by decide) ?_
          exact law_c12 l hl G u h hX hbl hbA hi1 hi2 hi3 hf a5 a6 next
        · refine tv_tableIn (pc := 39) 832 dL_law_39 (by decide) (by decide) (by rfl) (by decide) ?_
          exact law_c13 l hl G u h hX hbl hbA hi1 hi2 hi3 hf a5 a6 next
        · refine tv_tableIn (pc := 39) 876 dL_law_39 (by decide) (by decide) (by rfl) (by decide) ?_
          exact law_c14 l hl G u h hX hbl hbA hi1 hi2 hi3 hf a5 a6 next
        · refine tv_tableIn (pc := 39) 920 dL_law_39 (by decide) (by decide) (by rfl) (by decide) ?_
          exact law_c15 l hl G u h hX hbl hbA hi1 hi2 hi3 hf a5 a6 next
        · refine tv_tableIn (pc := 39) 1004 dL_law_39 (by decide) (by decide) (by rfl) (by decide) ?_
          exact law_c16 l hl G u h hX hbl hbA hi1 hi2 hi3 hf a5 a6 next
        · refine tv_tableIn (pc := 39) 1088 dL_law_39 (by decide) (by decide) (by rfl) (by decide) ?_
          exact law_c17 l hl G u h hX hbl hbA hi1 hi2 hi3 hf a5 a6 next
        · refine tv_tableIn (pc := 39) 1144 dL_law_39 (by decide) (by decide) (by rfl) (by decide) ?_
          exact law_c18 l hl G u h hX hbl hbA hi1 hi2 hi3 hf a5 a6 next
def yt_86 : List tc_R := [(5, 0, [3, 9, 15, 26, 49, 0]), (5, 1, [4, 0]), (3, 4, [3]), (0, 16, []), (0, 16, []), (0, 16, []), (0, 16, []), (5, 1, [10, 0]), (3, 4, [9]), (0, 16, []), (0, 16, []), (0, 16, []), (0, 16, []), (5, 6, [16, 25]), (5, 2, [17, 24]), (3, 6, [16]), (0, 17, []), (0, 17, []), (0, 17, []), (0, 17, []), (0, 17, []), (0, 17, []), (0, 6, []), (0, 17, []), (5, 3, [27, 37, 47, 48]), (3, 9, [26]), (0, 17, []), (0, 17, []), (0, 17, []), (0, 17, []), (0, 17, []), (0, 17, []), (0, 17, []), (0, 17, []), (0, 17, []), (3, 9, [36]), (0, 17, []), (0, 17, []), (0, 17, []), (0, 17, []), (0, 17, []), (0, 17, []), (0, 17, []), (0, 17, []), (0, 17, []), (0, 9, []), (0, 9, []), (5, 5, [50, 53, 56, 57, 0, 0]), (5, 4, [51, 52, 0]), (0, 6, []), (0, 200, []), (5, 4, [54, 55, 0]), (0, 6, []), (0, 200, []), (0, 3, []), (1, 3, []), (5, 7, [0, 0, 59, 60, 61, 62, 0, 63, 64, 65, 66, 67, 68, 69, 0, 70, 71, 72, 73, 0, 0, 74, 75, 76, 0, 77, 0]), (0, 32, []), (0, 32, []), (0, 32, []), (0, 32, []), (0, 16, []), (0, 16, []), (0, 16, []), (1, 16, []), (1, 17, []), (1, 34, []), (0, 34, []), (0, 153, []), (0, 153, []), (0, 9, []), (0, 9, []), (0, 12, []), (0, 3, []), (1, 3, []), (0, 400, []), (2, 1, [])]
def tc_0 : tc_S := fun _ _ => 0
def cv (r : tc_R) : tc_R := if r.1 = 5 then (4, r.2.1, r.2.2.map (fun f => f - 1)) else r
theorem cv_e {G : tc_G} {k : Nat} {r : tc_R} (h : r.1 < 4 ∨ (r.1 = 5 ∧ ∀ f ∈ r.2.2, f ≠ 1)) : ty_e G r = tc_e G tc_0 k (cv r) := by
  obtain ⟨a, n, fl⟩ := r
  rcases h with h | ⟨h, hf⟩
  · have h4 : a = 0 ∨ a = 1 ∨ a = 2 ∨ a = 3 := by have : a < 4 := h; omega
    rcases h4 with rfl | rfl | rfl | rfl <;> rfl
  · have h5 : a = 5 := h
    subst h5
    show (Sum.inr (n, fl.map fun f => if f = 0 then Value.int 0 else if f = 1 then .null else .ref (tc_ad G (f - 2))) : va_E) = Sum.inr (n, (fl.map (fun f => f - 1)).mapIdx fun j f => if f = 0 then Value.int (tc_0 k j) else .ref (tc_ad G (f - 1)))
    refine congrArg (fun z => (Sum.inr (n, z) : va_E)) ?_
    apply List.ext_getElem?
    intro j
    rw [List.getElem?_map, List.getElem?_mapIdx, List.getElem?_map]
    cases hj : fl[j]? with
    | none => rfl
    | some f =>
      have hf1 : f ≠ 1 := hf f (List.mem_of_getElem? hj)
      show some _ = some _
      refine congrArg some ?_
      show (if f = 0 then Value.int 0 else if f = 1 then Value.null else Value.ref (tc_ad G (f - 2))) = (if f - 1 = 0 then Value.int (tc_0 k j) else Value.ref (tc_ad G (f - 1 - 1)))
      by_cases h0 : f = 0
      · rw [if_pos h0, if_pos (by omega)]; rfl
      · rw [if_neg h0, if_neg hf1, if_neg (by omega), show f - 1 - 1 = f - 2 by omega]
theorem yt_ok : ∀ r ∈ yt_86, r.1 < 4 ∨ (r.1 = 5 ∧ ∀ f ∈ r.2.2, f ≠ 1) := by decide +kernel
theorem yt_cv : tcx.1 = yt_86.map cv := by decide +kernel
theorem yt_end (G : tc_G) : ty_w G yt_86 = tc_w tcx G tc_0 := by
  unfold ty_w tc_w
  rw [yt_cv]
  apply List.ext_getElem?
  intro k
  rw [List.getElem?_mapIdx, List.getElem?_mapIdx, List.getElem?_map]
  cases h : yt_86[k]? with
  | none => rfl
  | some r =>
    show some (tc_ad G k, ty_e G r) = some (tc_ad G k, tc_e G tc_0 k (cv r))
    rw [cv_e (yt_ok r (List.mem_of_getElem? h))]
theorem tc_A0 {G : tc_G} {z : Nat} (hG : ∀ k, tc_ad G k = z + k) (q : Nat) : tc_A tcx G z q ↔ z ≤ q := by
  constructor
  · rintro (⟨k, -, e⟩ | h)
    · rw [e, hG]; omega
    · exact h
  · exact Or.inr
theorem tc_D0 {G : tc_G} {b : Nat} {A : Nat → Prop} (hG : ∀ k, tc_ad G k = b + k) (hA : ∀ k, A (b + k)) : va_D A (tc_w tcx G tc_0) := by
  have key : ∀ (i : Nat) (q : Nat × va_E), (tc_w tcx G tc_0)[i]? = some q → q.1 = b + i := by
    intro i q hq
    unfold tc_w at hq
    rw [List.getElem?_mapIdx] at hq
    cases hr : tcx.1[i]? with
    | none => rw [hr] at hq; cases hq
    | some r => rw [hr] at hq; cases hq; exact hG i
  exact ⟨fun i j p q hi hj e => by rw [key i p hi, key j q hj] at e; omega, fun k q hk => by rw [key k q hk]; exact hA k⟩
theorem j_0 : jI 0 tc_0 := by
  refine ⟨⟨by omega, rfl, rfl, fun j i hj hi => absurd hi (by omega), fun i hi => absurd hi (by omega), fun i hi => absurd hi (by omega), ⟨fun r hr q hq => Or.inr ⟨0, by omega, rfl⟩, fun r hr => Or.inr ⟨0, by omega, rfl⟩⟩, rfl, Or.inl rfl⟩, fun h => absurd h (by decide)⟩
/-- from building to walking -/
theorem ty_V {G : tc_G} {p : Program} {l : Launch} {e : Env} {R : Room} {s : State} {m : MethodId} {args : Array Value} {below : List Frame} {meth : Method} {c : Code} {cc : ByteArray} {nL : Nat} {own nmn : String} {ret : Option FieldType} {Q : State → Prop} {cells slots pc : Nat} {lv : List (Option Value)} {st : List Value} (hZ : tc_Z tcx (tc_A tcx G s.heap.size) s s.heap)
    (kk : tc_V tcx G p l e R s m args below meth c cc nL tw own ret (c.exceptionTable.toList.map (fun h => (h.startPc, h.endPc, h.handlerPc, h.catchType))) Q cells slots tc_0 pc lv st) : tc_Y G s.heap.size p l e R s m args below meth c cc nL own nmn ret Q cells slots yt_86 pc lv st := by
  intro hx hb hm ho ht hr hk hnm hF ls H locs hl hP hS
  have hG := hF.2.1
  refine kk hx hb hm ho ht hr hk rfl ls H locs hl ⟨?_, hF.1, tc_D0 hG (fun k => (tc_A0 hG _).mpr (by omega)), ⟨hS.1, fun q h1 h2 => hS.2.1 q h1 (fun z => h2 ((tc_A0 hG q).mpr z)), fun q hq => (tc_A0 hG _).mpr (hS.2.2 q hq)⟩, fun q h => (tc_A0 hG q).mpr h, hZ, hF.2.2.1⟩
  have := hP.1
  rw [yt_end] at this
  exact this
theorem st_cl {s : State} {args : Array Value} (ht : ∀ w ∈ tw, w.before args s = true) : ∀ (c : Nat) (q : vw_C), tw_cl[c]? = some q → ∃ (cC : ClassId) (iS : Nat → Nat), u_Kn s q.1 q.2.1 q.2.2 cC iS := by
  intro c q hq
  have hc : c < 8 := (List.getElem?_eq_some_iff.mp hq).1
  have : c = 0 ∨ c = 1 ∨ c = 2 ∨ c = 3 ∨ c = 4 ∨ c = 5 ∨ c = 6 ∨ c = 7 := by omega
  rcases this with rfl | rfl | rfl | rfl | rfl | rfl | rfl | rfl
  · cases hq; exact u_known ht uwT_ (ht _ wm_20)
  · cases hq; exact u_known ht uwC_ (ht _ wm_28)
  · cases hq; exact u_known ht uwP_ (ht _ wm_50)
  · cases hq; exact u_known ht uwK_ (ht _ wm_74)
  · cases hq; exact u_known ht uwM_ (ht _ wm_100)
  · cases hq; exact u_known ht uwR_ (ht _ wm_94)
  · cases hq; exact u_known ht uwS_ (ht _ wm_44)
  · cases hq; exact u_known ht uwD_ (ht _ wm_657)
theorem st_rc {args : Array Value} {s : State} {t : FieldType} (h : (Cond.arrayClass t).before args s = true) (ho : ∀ C, t ≠ .object C) : ∃ c : ClassId, ArrOfT s c t ∧ va_RA s c t := by
  obtain ⟨c, k, comp, h1, h2, h3⟩ := Cond.arrayClass_spec h
  refine ⟨c, fun N z => ⟨(fun q hq => by cases hq), k, h2, comp, h3⟩, ?_⟩
  cases t <;> first | exact h1 | exact absurd rfl (ho _)
theorem st_K {s : State} {args : Array Value} (ht : ∀ w ∈ tw, w.before args s = true) (hov : (Cond.arrayOver (.array .int)).before args s = true) : ∃ G0 : va_G × (ClassId × ClassId × ClassId × ClassId), va_K G0.1 tw_cl [(G0.2.1, .int), (G0.2.2.1, .boolean), (G0.2.2.2.1, .long), (G0.2.2.2.2, .array .int)] s := by
  have hc : ∀ c : Nat, ∃ x : ClassId × (Nat → Nat), ∀ q : vw_C, tw_cl[c]? = some q → u_Kn s q.1 q.2.1 q.2.2 x.1 x.2 := by
    intro c
    cases h : tw_cl[c]? with
    | none => exact ⟨(0, fun _ => 0), fun q hq => by cases hq⟩
    | some q =>
      obtain ⟨cC, iS, h1⟩ := st_cl ht c q h
      exact ⟨(cC, iS), fun q' hq' => by cases hq'; exact h1⟩
  obtain ⟨cI, hI⟩ := st_rc (ht _ wm_42) (fun C h => by cases h)
  obtain ⟨cZ, hZ⟩ := st_rc (ht _ wm_134) (fun C h => by cases h)
  obtain ⟨cJ, hJ⟩ := st_rc (ht _ wm_909) (fun C h => by cases h)
  obtain ⟨comp, cQ, k, q1, q2, q3, q4, q5⟩ := arrayOverA_spec hov
  refine ⟨((fun c => (Classical.choose (hc c)).1, fun c => (Classical.choose (hc c)).2), cI, cZ, cJ, cQ), fun c q hq => Classical.choose_spec (hc c) q hq, fun k9 q hq => ?_⟩
  have h4 : k9 < 4 := (List.getElem?_eq_some_iff.mp hq).1
  have : k9 = 0 ∨ k9 = 1 ∨ k9 = 2 ∨ k9 = 3 := by omega
  rcases this with rfl | rfl | rfl | rfl
  · cases hq; exact hI
  · cases hq; exact hZ
  · cases hq; exact hJ
  · cases hq; exact ⟨fun N z => ⟨(fun q hq => by cases hq), k, q3, comp, q4⟩, q5⟩
theorem st_yes {s : State} {args : Array Value} {a b : String} (h : (Cond.castable a b).before args s = true) : tc_cst s (a, b, true) := Cond.castable_spec h
theorem st_no {s : State} {args : Array Value} {a b : String} (ha : (Cond.castable a a).before args s = true) (hb : (Cond.castable b b).before args s = true) (h : (Cond.not (.castable a b)).before args s = true) : tc_cst s (a, b, false) := by
  obtain ⟨x, -, h1, -, -⟩ := Cond.castable_spec ha
  obtain ⟨y, -, h2, -, -⟩ := Cond.castable_spec hb
  have hv := Cond.holds_not_iff.mp h
  simp only [Cond.value, h1, h2] at hv
  exact ⟨x, y, h1, h2, Option.some.inj hv⟩
