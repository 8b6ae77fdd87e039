/-! the cells: 0 the object, 1 and 7 its programs, 13 to 23 the shortener, 24 to 46 the carriers, 47 to 55 the run; 56 to 75 the reference; 76 the law's array -/
def tcx_tb : List tc_R := [(4, 0, [2, 8, 14, 25, 48, 0]), (4, 1, [3, 0]), (3, 4, [3]), (0, 16, []), (0, 16, []), (0, 16, []), (0, 16, []), (4, 1, [9, 0]), (3, 4, [9]), (0, 16, []), (0, 16, []), (0, 16, []), (0, 16, []), (4, 6, [15, 24]), (4, 2, [16, 23]), (3, 6, [16]), (0, 17, []), (0, 17, []), (0, 17, []), (0, 17, []), (0, 17, []), (0, 17, []), (0, 6, []), (0, 17, []), (4, 3, [26, 36, 46, 47]), (3, 9, [26]), (0, 17, []), (0, 17, []), (0, 17, []), (0, 17, []), (0, 17, []), (0, 17, []), (0, 17, []), (0, 17, []), (0, 17, []), (3, 9, [36]), (0, 17, []), (0, 17, []), (0, 17, []), (0, 17, []), (0, 17, []), (0, 17, []), (0, 17, []), (0, 17, []), (0, 17, []), (0, 9, []), (0, 9, []), (4, 5, [49, 52, 55, 56, 0, 0]), (4, 4, [50, 51, 0]), (0, 6, []), (0, 200, []), (4, 4, [53, 54, 0]), (0, 6, []), (0, 200, []), (0, 3, []), (1, 3, []), (4, 7, [0, 0, 58, 59, 60, 61, 0, 62, 63, 64, 65, 66, 67, 68, 0, 69, 70, 71, 72, 0, 0, 73, 74, 75, 0, 76, 0]), (0, 32, []), (0, 32, []), (0, 32, []), (0, 32, []), (0, 16, []), (0, 16, []), (0, 16, []), (1, 16, []), (1, 17, []), (1, 34, []), (0, 34, []), (0, 153, []), (0, 153, []), (0, 9, []), (0, 9, []), (0, 12, []), (0, 3, []), (1, 3, []), (0, 400, []), (2, 1, [])]
def tcx : tc_X := (tcx_tb, tw_cl, [("TracedCode$Code", "READ_PLACES", [0, 4, 12, 2, 2, 4])], [("TracedCode", 11, yC_init, "TracedCode"), ("TracedCode", 21, yS_init, "TracedCode"), ("TracedCode$Shortener", 11, yP_init, "TracedCode"), ("TracedCode$Copies", 3, yF_init, "TracedCode"), ("TracedCode", 28, yK_init, "TracedCode"), ("TracedCode$Carriers", 3, yF_init, "TracedCode"), ("TracedCode", 35, yR_init, "TracedCode"), ("TracedCode$Run", 11, yM_init, "TracedCode")], [yF_settle, (⟨"TracedCode$Facts", "follow", "(LTracedCode$Code;LTracedCode$Code;I)V"⟩ : MethodName), (⟨"TracedCode$Facts", "put", "(I)V"⟩ : MethodName), (⟨"TracedCode$Facts", "narrow", "(I)Z"⟩ : MethodName), (⟨"java/lang/RuntimeException", "<init>", "()V"⟩ : MethodName), (⟨"java/lang/RuntimeException", "<init>", "(Ljava/lang/String;)V"⟩ : MethodName), (⟨"java/lang/Exception", "<init>", "()V"⟩ : MethodName), (⟨"java/lang/Exception", "<init>", "(Ljava/lang/String;)V"⟩ : MethodName), (⟨"java/lang/Throwable", "<init>", "()V"⟩ : MethodName), (⟨"java/lang/Throwable", "<init>", "(Ljava/lang/String;)V"⟩ : MethodName)], [("java/lang/Throwable", "UNASSIGNED_STACK", "[Ljava/lang/StackTraceElement;"), ("java/lang/Throwable", "SUPPRESSED_SENTINEL", "Ljava/util/List;")], [("java/lang/IllegalArgumentException", "java/lang/IllegalArgumentException", true), ("java/lang/IllegalStateException", "java/lang/IllegalStateException", true), ("java/lang/IndexOutOfBoundsException", "java/lang/IndexOutOfBoundsException", true), ("java/util/NoSuchElementException", "java/util/NoSuchElementException", true), ("java/lang/IllegalStateException", "java/lang/IllegalArgumentException", false), ("java/lang/IndexOutOfBoundsException", "java/lang/IllegalStateException", false), ("java/util/NoSuchElementException", "java/lang/IllegalStateException", false), ("java/util/NoSuchElementException", "java/lang/IndexOutOfBoundsException", false)])
theorem tb_0 : tcx.1[0]? = some (4, 0, [2, 8, 14, 25, 48, 0]) := by rfl
theorem tb_1 : tcx.1[1]? = some (4, 1, [3, 0]) := by rfl
theorem tb_2 : tcx.1[2]? = some (3, 4, [3]) := by rfl
theorem tb_3 : tcx.1[3]? = some (0, 16, []) := by rfl
theorem tb_4 : tcx.1[4]? = some (0, 16, []) := by rfl
theorem tb_5 : tcx.1[5]? = some (0, 16, []) := by rfl
theorem tb_6 : tcx.1[6]? = some (0, 16, []) := by rfl
theorem tb_7 : tcx.1[7]? = some (4, 1, [9, 0]) := by rfl
theorem tb_8 : tcx.1[8]? = some (3, 4, [9]) := by rfl
theorem tb_9 : tcx.1[9]? = some (0, 16, []) := by rfl
theorem tb_10 : tcx.1[10]? = some (0, 16, []) := by rfl
theorem tb_11 : tcx.1[11]? = some (0, 16, []) := by rfl
theorem tb_12 : tcx.1[12]? = some (0, 16, []) := by rfl
theorem tb_13 : tcx.1[13]? = some (4, 6, [15, 24]) := by rfl
theorem tb_14 : tcx.1[14]? = some (4, 2, [16, 23]) := by rfl
theorem tb_15 : tcx.1[15]? = some (3, 6, [16]) := by rfl
theorem tb_16 : tcx.1[16]? = some (0, 17, []) := by rfl
theorem tb_17 : tcx.1[17]? = some (0, 17, []) := by rfl
theorem tb_18 : tcx.1[18]? = some (0, 17, []) := by rfl
theorem tb_19 : tcx.1[19]? = some (0, 17, []) := by rfl
theorem tb_20 : tcx.1[20]? = some (0, 17, []) := by rfl
theorem tb_21 : tcx.1[21]? = some (0, 17, []) := by rfl
theorem tb_22 : tcx.1[22]? = some (0, 6, []) := by rfl
theorem tb_23 : tcx.1[23]? = some (0, 17, []) := by rfl
theorem tb_24 : tcx.1[24]? = some (4, 3, [26, 36, 46, 47]) := by rfl
theorem tb_25 : tcx.1[25]? = some (3, 9, [26]) := by rfl
theorem tb_26 : tcx.1[26]? = some (0, 17, []) := by rfl
theorem tb_27 : tcx.1[27]? = some (0, 17, []) := by rfl
theorem tb_28 : tcx.1[28]? = some (0, 17, []) := by rfl
theorem tb_29 : tcx.1[29]? = some (0, 17, []) := by rfl
theorem tb_30 : tcx.1[30]? = some (0, 17, []) := by rfl
theorem tb_31 : tcx.1[31]? = some (0, 17, []) := by rfl
theorem tb_32 : tcx.1[32]? = some (0, 17, []) := by rfl
theorem tb_33 : tcx.1[33]? = some (0, 17, []) := by rfl
theorem tb_34 : tcx.1[34]? = some (0, 17, []) := by rfl
theorem tb_35 : tcx.1[35]? = some (3, 9, [36]) := by rfl
theorem tb_36 : tcx.1[36]? = some (0, 17, []) := by rfl
theorem tb_37 : tcx.1[37]? = some (0, 17, []) := by rfl
theorem tb_38 : tcx.1[38]? = some (0, 17, []) := by rfl
theorem tb_39 : tcx.1[39]? = some (0, 17, []) := by rfl
theorem tb_40 : tcx.1[40]? = some (0, 17, []) := by rfl
theorem tb_41 : tcx.1[41]? = some (0, 17, []) := by rfl
theorem tb_42 : tcx.1[42]? = some (0, 17, []) := by rfl
theorem tb_43 : tcx.1[43]? = some (0, 17, []) := by rfl
theorem tb_44 : tcx.1[44]? = some (0, 17, []) := by rfl
theorem tb_45 : tcx.1[45]? = some (0, 9, []) := by rfl
theorem tb_46 : tcx.1[46]? = some (0, 9, []) := by rfl
theorem tb_47 : tcx.1[47]? = some (4, 5, [49, 52, 55, 56, 0, 0]) := by rfl
theorem tb_48 : tcx.1[48]? = some (4, 4, [50, 51, 0]) := by rfl
theorem tb_49 : tcx.1[49]? = some (0, 6, []) := by rfl
theorem tb_50 : tcx.1[50]? = some (0, 200, []) := by rfl
theorem tb_51 : tcx.1[51]? = some (4, 4, [53, 54, 0]) := by rfl
theorem tb_52 : tcx.1[52]? = some (0, 6, []) := by rfl
theorem tb_53 : tcx.1[53]? = some (0, 200, []) := by rfl
theorem tb_54 : tcx.1[54]? = some (0, 3, []) := by rfl
theorem tb_55 : tcx.1[55]? = some (1, 3, []) := by rfl
theorem tb_56 : tcx.1[56]? = some (4, 7, [0, 0, 58, 59, 60, 61, 0, 62, 63, 64, 65, 66, 67, 68, 0, 69, 70, 71, 72, 0, 0, 73, 74, 75, 0, 76, 0]) := by rfl
theorem tb_57 : tcx.1[57]? = some (0, 32, []) := by rfl
theorem tb_58 : tcx.1[58]? = some (0, 32, []) := by rfl
theorem tb_59 : tcx.1[59]? = some (0, 32, []) := by rfl
theorem tb_60 : tcx.1[60]? = some (0, 32, []) := by rfl
theorem tb_61 : tcx.1[61]? = some (0, 16, []) := by rfl
theorem tb_62 : tcx.1[62]? = some (0, 16, []) := by rfl
theorem tb_63 : tcx.1[63]? = some (0, 16, []) := by rfl
theorem tb_64 : tcx.1[64]? = some (1, 16, []) := by rfl
theorem tb_65 : tcx.1[65]? = some (1, 17, []) := by rfl
theorem tb_66 : tcx.1[66]? = some (1, 34, []) := by rfl
theorem tb_67 : tcx.1[67]? = some (0, 34, []) := by rfl
theorem tb_68 : tcx.1[68]? = some (0, 153, []) := by rfl
theorem tb_69 : tcx.1[69]? = some (0, 153, []) := by rfl
theorem tb_70 : tcx.1[70]? = some (0, 9, []) := by rfl
theorem tb_71 : tcx.1[71]? = some (0, 9, []) := by rfl
theorem tb_72 : tcx.1[72]? = some (0, 12, []) := by rfl
theorem tb_73 : tcx.1[73]? = some (0, 3, []) := by rfl
theorem tb_74 : tcx.1[74]? = some (1, 3, []) := by rfl
theorem tb_75 : tcx.1[75]? = some (0, 400, []) := by rfl
theorem tb_76 : tcx.1[76]? = some (2, 1, []) := by rfl
/-- a walk's contract over the one list of words -/
theorem tw_ofV {G : tc_G} {l : Launch} {y : MethodName} {own : String} {rm : Room} {mc ms nL : Nat} {cc : ByteArray} {ret : Option FieldType} {av : List Value} {u : tc_S} {K : Outcome → tc_S → Prop} (lv : List (Option Value))
    (hy : plainName y.cls = true) (ho : y.cls = own) (hn : (lg_sl av).length ≤ nL) (hlv : lv_args 0 av = tc_as 0 lv)
    (body : ∀ (p : Program) (e : Env) (s : State) (m : MethodId) (args : Array Value) (below : List Frame) (meth : Method) (c : Code), tc_V tcx G p l e rm s m args below meth c cc nL tw own ret [] (MQ below (tc_Qc tcx G K s.heap.size) args s mc ms (tc_A tcx G s.heap.size)) 0 0 u 0 lv []) : tc_C tcx G l y (Cond.code y cc nL ret :: tw) rm mc ms av u K := by
  subst ho
  exact tc_ofV lv hy rfl hn hlv (fun p e s m args below meth c hx hb hm ho ht => body p e s m args below meth c hx hb hm ho (fun w hw => ht w (List.mem_cons_of_mem _ hw)))
theorem tw_ofT {G : tc_G} {l : Launch} {y : MethodName} {own : String} {rm : Room} {mc ms nL : Nat} {cc : ByteArray} {ret : Option FieldType} {av : List Value} {u u' : tc_S} {cls : String} (lv : List (Option Value))
    (hy : plainName y.cls = true) (ho : y.cls = own) (hn : (lg_sl av).length ≤ nL) (hlv : lv_args 0 av = tc_as 0 lv)
    (body : ∀ (p : Program) (e : Env) (s : State) (m : MethodId) (args : Array Value) (below : List Frame) (meth : Method) (c : Code), tc_V tcx G p l e rm s m args below meth c cc nL tw own ret [] (tc_MT tcx G below cls u' args s mc ms) 0 0 u 0 lv []) : tc_T tcx G l y (Cond.code y cc nL ret :: tw) rm mc ms av u u' cls := by
  subst ho
  exact tc_ofT lv hy rfl hn hlv (fun p e s m args below meth c hx hb hm ho ht => body p e s m args below meth c hx hb hm ho (fun w hw => ht w (List.mem_cons_of_mem _ hw)))
section TK
variable {R rm : Room} {s : State} {args : Array Value} {own C : String} {idx mc ms nL : Nat} {y : MethodName} {b : ByteArray} {ret : Option FieldType}
theorem tw_kV (n : Nat) (h2 : Cond.instanceMethod y ∈ tw) (h3 : Cond.selects C y y ∈ tw) (h4 : Cond.initialized C ∈ tw) (h5 : Cond.code y b nL ret ∈ tw) (hrc : rm.cells = mc) (hrs : rm.slots = ms) (hd : y.cls = C ∧ y.cls ≠ "java/lang/invoke/MethodHandle" ∧ y.cls ≠ "java/lang/invoke/VarHandle" ∧ (parseMethodDescriptor y.desc).map (fun d => d.parameters.length) = some n)
    (h : Cond.methodLink own idx y ∈ tw) (hR : rm.frames + 1 ≤ R.frames ∧ 8 + (nL + 11) + rm.locals ≤ R.locals) : (∀ w ∈ tw, w.before args s = true) → CallW R s args own C idx y b nL ret (Cond.code y b nL ret :: tw) rm mc ms n :=
  fun hts => cwV n hts (tw_GI (List.forall_mem_append.mpr ⟨List.forall_mem_cons.mpr ⟨h, List.forall_mem_cons.mpr ⟨h2, List.forall_mem_cons.mpr ⟨h3, List.forall_mem_cons.mpr ⟨h4, fun _ q => absurd q List.not_mem_nil⟩⟩⟩⟩, tw_c h5⟩)) rfl hrc hrs hd hR
theorem tw_kS (n : Nat) (h2 : Cond.static y ∈ tw) (h4 : Cond.initialized y.cls ∈ tw) (h5 : Cond.code y b nL ret ∈ tw) (hrc : rm.cells = mc) (hrs : rm.slots = ms) (hd : y.cls ≠ "java/lang/invoke/MethodHandle" ∧ y.cls ≠ "java/lang/invoke/VarHandle" ∧ (parseMethodDescriptor y.desc).map (fun d => d.parameters.length) = some n)
    (h : Cond.methodLink own idx y ∈ tw) (hR : rm.frames + 1 ≤ R.frames ∧ 8 + (nL + 11) + rm.locals ≤ R.locals) : (∀ w ∈ tw, w.before args s = true) → (CallB R s args own idx y b nL ret (Cond.code y b nL ret :: tw) rm mc ms n ∧ (Cond.static y).before args s = true) :=
  fun hts => va_cwS n hts (tw_GI (List.forall_mem_append.mpr ⟨List.forall_mem_cons.mpr ⟨h, List.forall_mem_cons.mpr ⟨h2, List.forall_mem_cons.mpr ⟨h4, fun _ q => absurd q List.not_mem_nil⟩⟩⟩, tw_c h5⟩)) rfl hrc hrs hd hR
end TK
theorem wm_nat : Cond.native arraycopyName ∈ tw := tw_of 172 (by decide +kernel) (by decide +kernel)
theorem wm_sta : Cond.static arraycopyName ∈ tw := tw_of 171 (by decide +kernel) (by decide +kernel)
abbrev r0T_init : Room := { frames := 4, cells := 0, slots := 0, locals := 84 }
abbrev wT_init : List Cond := Cond.code yT_init bT_init 1 none :: tw
abbrev r0C_init : Room := { frames := 1, cells := 0, slots := 0, locals := 24 }
abbrev wC_init : List Cond := Cond.code yC_init bC_init 1 none :: tw
abbrev r0S_init : Room := { frames := 3, cells := 0, slots := 0, locals := 64 }
abbrev wS_init : List Cond := Cond.code yS_init bS_init 1 none :: tw
abbrev r0P_init : Room := { frames := 2, cells := 0, slots := 0, locals := 44 }
abbrev wP_init : List Cond := Cond.code yP_init bP_init 1 none :: tw
abbrev r0F_init : Room := { frames := 1, cells := 0, slots := 0, locals := 24 }
abbrev wF_init : List Cond := Cond.code yF_init bF_init 1 none :: tw
abbrev r0K_init : Room := { frames := 2, cells := 0, slots := 0, locals := 44 }
abbrev wK_init : List Cond := Cond.code yK_init bK_init 1 none :: tw
abbrev r0R_init : Room := { frames := 2, cells := 0, slots := 0, locals := 44 }
abbrev wR_init : List Cond := Cond.code yR_init bR_init 1 none :: tw
abbrev r0M_init : Room := { frames := 1, cells := 0, slots := 0, locals := 24 }
abbrev wM_init : List Cond := Cond.code yM_init bM_init 1 none :: tw
abbrev r0T_clear : Room := { frames := 1, cells := 0, slots := 0, locals := 20 }
abbrev wT_clear : List Cond := Cond.code yT_clear bT_clear 1 none :: tw
theorem kVT_clear {R : Room} {s : State} {args : Array Value} {own : String} {idx : Nat} (h : Cond.methodLink own idx yT_clear ∈ tw) (hR : r0T_clear.frames + 1 ≤ R.frames ∧ 8 + (1 + 11) + r0T_clear.locals ≤ R.locals) : (∀ w ∈ tw, w.before args s = true) → CallW R s args own "TracedCode" idx yT_clear bT_clear 1 none wT_clear r0T_clear 0 0 0 := tw_kV 0 wm_155 wm_156 wm_1 wm_157 rfl rfl (by decide +kernel) h hR
abbrev r0C_dropLines : Room := { frames := 0, cells := 0, slots := 0, locals := 0 }
abbrev wC_dropLines : List Cond := Cond.code yC_dropLines bC_dropLines 1 none :: tw
theorem kVC_dropLines {R : Room} {s : State} {args : Array Value} {own : String} {idx : Nat} (h : Cond.methodLink own idx yC_dropLines ∈ tw) (hR : r0C_dropLines.frames + 1 ≤ R.frames ∧ 8 + (1 + 11) + r0C_dropLines.locals ≤ R.locals) : (∀ w ∈ tw, w.before args s = true) → CallW R s args own "TracedCode$Code" idx yC_dropLines bC_dropLines 1 none wC_dropLines r0C_dropLines 0 0 0 := tw_kV 0 wm_159 wm_160 wm_2 wm_161 rfl rfl (by decide +kernel) h hR
abbrev r0T_shorten : Room := { frames := 7, cells := 0, slots := 0, locals := 167 }
abbrev wT_shorten : List Cond := Cond.code yT_shorten bT_shorten 2 (some .int) :: tw
theorem kVT_shorten {R : Room} {s : State} {args : Array Value} {own : String} {idx : Nat} (h : Cond.methodLink own idx yT_shorten ∈ tw) (hR : r0T_shorten.frames + 1 ≤ R.frames ∧ 8 + (2 + 11) + r0T_shorten.locals ≤ R.locals) : (∀ w ∈ tw, w.before args s = true) → CallW R s args own "TracedCode" idx yT_shorten bT_shorten 2 (some .int) wT_shorten r0T_shorten 0 0 0 := tw_kV 0 wm_163 wm_164 wm_1 wm_165 rfl rfl (by decide +kernel) h hR
abbrev r0C_takeLines : Room := { frames := 1, cells := 0, slots := 0, locals := 40 }
abbrev wC_takeLines : List Cond := Cond.code yC_takeLines bC_takeLines 3 none :: tw
theorem kVC_takeLines {R : Room} {s : State} {args : Array Value} {own : String} {idx : Nat} (h : Cond.methodLink own idx yC_takeLines ∈ tw) (hR : r0C_takeLines.frames + 1 ≤ R.frames ∧ 8 + (3 + 11) + r0C_takeLines.locals ≤ R.locals) : (∀ w ∈ tw, w.before args s = true) → CallW R s args own "TracedCode$Code" idx yC_takeLines bC_takeLines 3 none wC_takeLines r0C_takeLines 0 0 1 := tw_kV 1 wm_167 wm_168 wm_2 wm_169 rfl rfl (by decide +kernel) h hR
abbrev r0S_changingRounds : Room := { frames := 6, cells := 0, slots := 0, locals := 142 }
abbrev wS_changingRounds : List Cond := Cond.code yS_changingRounds bS_changingRounds 6 (some .int) :: tw
theorem kVS_changingRounds {R : Room} {s : State} {args : Array Value} {own : String} {idx : Nat} (h : Cond.methodLink own idx yS_changingRounds ∈ tw) (hR : r0S_changingRounds.frames + 1 ≤ R.frames ∧ 8 + (6 + 11) + r0S_changingRounds.locals ≤ R.locals) : (∀ w ∈ tw, w.before args s = true) → CallW R s args own "TracedCode$Shortener" idx yS_changingRounds bS_changingRounds 6 (some .int) wS_changingRounds r0S_changingRounds 0 0 1 := tw_kV 1 wm_174 wm_175 wm_3 wm_176 rfl rfl (by decide +kernel) h hR
abbrev r0S_passCopiesOn : Room := { frames := 5, cells := 0, slots := 0, locals := 118 }
abbrev wS_passCopiesOn : List Cond := Cond.code yS_passCopiesOn bS_passCopiesOn 5 (some .boolean) :: tw
theorem kVS_passCopiesOn {R : Room} {s : State} {args : Array Value} {own : String} {idx : Nat} (h : Cond.methodLink own idx yS_passCopiesOn ∈ tw) (hR : r0S_passCopiesOn.frames + 1 ≤ R.frames ∧ 8 + (5 + 11) + r0S_passCopiesOn.locals ≤ R.locals) : (∀ w ∈ tw, w.before args s = true) → CallW R s args own "TracedCode$Shortener" idx yS_passCopiesOn bS_passCopiesOn 5 (some .boolean) wS_passCopiesOn r0S_passCopiesOn 0 0 1 := tw_kV 1 wm_180 ws_S_passCopiesOn wm_3 wm_181 rfl rfl (by decide +kernel) h hR
abbrev r0P_find : Room := { frames := 4, cells := 0, slots := 0, locals := 96 }
abbrev wP_find : List Cond := Cond.code yP_find bP_find 3 none :: tw
theorem kVP_find {R : Room} {s : State} {args : Array Value} {own : String} {idx : Nat} (h : Cond.methodLink own idx yP_find ∈ tw) (hR : r0P_find.frames + 1 ≤ R.frames ∧ 8 + (3 + 11) + r0P_find.locals ≤ R.locals) : (∀ w ∈ tw, w.before args s = true) → CallW R s args own "TracedCode$Copies" idx yP_find bP_find 3 none wP_find r0P_find 0 0 1 := tw_kV 1 wm_183 wm_184 wm_5 wm_185 rfl rfl (by decide +kernel) h hR
abbrev r0F_settle : Room := { frames := 3, cells := 0, slots := 0, locals := 71 }
abbrev wF_settle : List Cond := Cond.code yF_settle bF_settle 6 none :: tw
abbrev r0C_size : Room := { frames := 0, cells := 0, slots := 0, locals := 0 }
abbrev wC_size : List Cond := Cond.code yC_size bC_size 1 (some .int) :: tw
theorem kVC_size {R : Room} {s : State} {args : Array Value} {own : String} {idx : Nat} (h : Cond.methodLink own idx yC_size ∈ tw) (hR : r0C_size.frames + 1 ≤ R.frames ∧ 8 + (1 + 11) + r0C_size.locals ≤ R.locals) : (∀ w ∈ tw, w.before args s = true) → CallW R s args own "TracedCode$Code" idx yC_size bC_size 1 (some .int) wC_size r0C_size 0 0 0 := tw_kV 0 wm_193 wm_194 wm_2 wm_195 rfl rfl (by decide +kernel) h hR
abbrev r0K_follow : Room := { frames := 2, cells := 0, slots := 0, locals := 45 }
abbrev wK_follow : List Cond := Cond.code yK_follow bK_follow 7 none :: tw
abbrev r0K_behindShortLine : Room := { frames := 1, cells := 0, slots := 0, locals := 22 }
abbrev wK_behindShortLine : List Cond := Cond.code yK_behindShortLine bK_behindShortLine 4 (some .int) :: tw
theorem kSK_behindShortLine {R : Room} {s : State} {args : Array Value} {own : String} {idx : Nat} (h : Cond.methodLink own idx yK_behindShortLine ∈ tw) (hR : r0K_behindShortLine.frames + 1 ≤ R.frames ∧ 8 + (4 + 11) + r0K_behindShortLine.locals ≤ R.locals) : (∀ w ∈ tw, w.before args s = true) → (CallB R s args own idx yK_behindShortLine bK_behindShortLine 4 (some .int) wK_behindShortLine r0K_behindShortLine 0 0 3 ∧ (Cond.static yK_behindShortLine).before args s = true) := tw_kS 3 wm_203 wm_6 wm_204 rfl rfl (by decide +kernel) h hR
abbrev r0C_written : Room := { frames := 0, cells := 0, slots := 0, locals := 0 }
abbrev wC_written : List Cond := Cond.code yC_written bC_written 3 (some .int) :: tw
theorem kVC_written {R : Room} {s : State} {args : Array Value} {own : String} {idx : Nat} (h : Cond.methodLink own idx yC_written ∈ tw) (hR : r0C_written.frames + 1 ≤ R.frames ∧ 8 + (3 + 11) + r0C_written.locals ≤ R.locals) : (∀ w ∈ tw, w.before args s = true) → CallW R s args own "TracedCode$Code" idx yC_written bC_written 3 (some .int) wC_written r0C_written 0 0 1 := tw_kV 1 wm_206 wm_207 wm_2 wm_208 rfl rfl (by decide +kernel) h hR
abbrev r0C_kind : Room := { frames := 0, cells := 0, slots := 0, locals := 0 }
abbrev wC_kind : List Cond := Cond.code yC_kind bC_kind 2 (some .int) :: tw
theorem kVC_kind {R : Room} {s : State} {args : Array Value} {own : String} {idx : Nat} (h : Cond.methodLink own idx yC_kind ∈ tw) (hR : r0C_kind.frames + 1 ≤ R.frames ∧ 8 + (2 + 11) + r0C_kind.locals ≤ R.locals) : (∀ w ∈ tw, w.before args s = true) → CallW R s args own "TracedCode$Code" idx yC_kind bC_kind 2 (some .int) wC_kind r0C_kind 0 0 1 := tw_kV 1 wm_210 wm_211 wm_2 wm_212 rfl rfl (by decide +kernel) h hR
abbrev r0C_number : Room := { frames := 0, cells := 0, slots := 0, locals := 0 }
abbrev wC_number : List Cond := Cond.code yC_number bC_number 3 (some .int) :: tw
theorem kVC_number {R : Room} {s : State} {args : Array Value} {own : String} {idx : Nat} (h : Cond.methodLink own idx yC_number ∈ tw) (hR : r0C_number.frames + 1 ≤ R.frames ∧ 8 + (3 + 11) + r0C_number.locals ≤ R.locals) : (∀ w ∈ tw, w.before args s = true) → CallW R s args own "TracedCode$Code" idx yC_number bC_number 3 (some .int) wC_number r0C_number 0 0 2 := tw_kV 2 wm_214 wm_215 wm_2 wm_216 rfl rfl (by decide +kernel) h hR
abbrev r0C_isEmpty : Room := { frames := 0, cells := 0, slots := 0, locals := 0 }
abbrev wC_isEmpty : List Cond := Cond.code yC_isEmpty bC_isEmpty 2 (some .boolean) :: tw
theorem kVC_isEmpty {R : Room} {s : State} {args : Array Value} {own : String} {idx : Nat} (h : Cond.methodLink own idx yC_isEmpty ∈ tw) (hR : r0C_isEmpty.frames + 1 ≤ R.frames ∧ 8 + (2 + 11) + r0C_isEmpty.locals ≤ R.locals) : (∀ w ∈ tw, w.before args s = true) → CallW R s args own "TracedCode$Code" idx yC_isEmpty bC_isEmpty 2 (some .boolean) wC_isEmpty r0C_isEmpty 0 0 1 := tw_kV 1 wm_218 wm_219 wm_2 wm_220 rfl rfl (by decide +kernel) h hR
abbrev r0P_follow : Room := { frames := 1, cells := 0, slots := 0, locals := 22 }
abbrev wP_follow : List Cond := Cond.code yP_follow bP_follow 7 none :: tw
abbrev r0K_put : Room := { frames := 0, cells := 0, slots := 0, locals := 0 }
abbrev wK_put : List Cond := Cond.code yK_put bK_put 3 none :: tw
abbrev r0P_put : Room := { frames := 0, cells := 0, slots := 0, locals := 0 }
abbrev wP_put : List Cond := Cond.code yP_put bP_put 3 none :: tw
abbrev r0K_narrow : Room := { frames := 0, cells := 0, slots := 0, locals := 0 }
abbrev wK_narrow : List Cond := Cond.code yK_narrow bK_narrow 5 (some .boolean) :: tw
abbrev r0P_narrow : Room := { frames := 0, cells := 0, slots := 0, locals := 0 }
abbrev wP_narrow : List Cond := Cond.code yP_narrow bP_narrow 4 (some .boolean) :: tw
abbrev r0C_target : Room := { frames := 0, cells := 0, slots := 0, locals := 0 }
abbrev wC_target : List Cond := Cond.code yC_target bC_target 2 (some .int) :: tw
theorem kVC_target {R : Room} {s : State} {args : Array Value} {own : String} {idx : Nat} (h : Cond.methodLink own idx yC_target ∈ tw) (hR : r0C_target.frames + 1 ≤ R.frames ∧ 8 + (2 + 11) + r0C_target.locals ≤ R.locals) : (∀ w ∈ tw, w.before args s = true) → CallW R s args own "TracedCode$Code" idx yC_target bC_target 2 (some .int) wC_target r0C_target 0 0 1 := tw_kV 1 wm_247 wm_248 wm_2 wm_249 rfl rfl (by decide +kernel) h hR
abbrev r0S_passOneOn : Room := { frames := 1, cells := 0, slots := 0, locals := 23 }
abbrev wS_passOneOn : List Cond := Cond.code yS_passOneOn bS_passOneOn 5 (some .boolean) :: tw
theorem kVS_passOneOn {R : Room} {s : State} {args : Array Value} {own : String} {idx : Nat} (h : Cond.methodLink own idx yS_passOneOn ∈ tw) (hR : r0S_passOneOn.frames + 1 ≤ R.frames ∧ 8 + (5 + 11) + r0S_passOneOn.locals ≤ R.locals) : (∀ w ∈ tw, w.before args s = true) → CallW R s args own "TracedCode$Shortener" idx yS_passOneOn bS_passOneOn 5 (some .boolean) wS_passOneOn r0S_passOneOn 0 0 3 := tw_kV 3 wm_253 ws_S_passOneOn wm_3 wm_254 rfl rfl (by decide +kernel) h hR
abbrev r0C_readsAt : Room := { frames := 0, cells := 0, slots := 0, locals := 0 }
abbrev wC_readsAt : List Cond := Cond.code yC_readsAt bC_readsAt 4 (some .boolean) :: tw
theorem kVC_readsAt {R : Room} {s : State} {args : Array Value} {own : String} {idx : Nat} (h : Cond.methodLink own idx yC_readsAt ∈ tw) (hR : r0C_readsAt.frames + 1 ≤ R.frames ∧ 8 + (4 + 11) + r0C_readsAt.locals ≤ R.locals) : (∀ w ∈ tw, w.before args s = true) → CallW R s args own "TracedCode$Code" idx yC_readsAt bC_readsAt 4 (some .boolean) wC_readsAt r0C_readsAt 0 0 2 := tw_kV 2 wm_256 wm_257 wm_2 wm_258 rfl rfl (by decide +kernel) h hR
abbrev r0P_origin : Room := { frames := 0, cells := 0, slots := 0, locals := 0 }
abbrev wP_origin : List Cond := Cond.code yP_origin bP_origin 3 (some .int) :: tw
theorem kVP_origin {R : Room} {s : State} {args : Array Value} {own : String} {idx : Nat} (h : Cond.methodLink own idx yP_origin ∈ tw) (hR : r0P_origin.frames + 1 ≤ R.frames ∧ 8 + (3 + 11) + r0P_origin.locals ≤ R.locals) : (∀ w ∈ tw, w.before args s = true) → CallW R s args own "TracedCode$Copies" idx yP_origin bP_origin 3 (some .int) wP_origin r0P_origin 0 0 2 := tw_kV 2 wm_263 wm_264 wm_5 wm_265 rfl rfl (by decide +kernel) h hR
abbrev r0C_readInstead : Room := { frames := 0, cells := 0, slots := 0, locals := 0 }
abbrev wC_readInstead : List Cond := Cond.code yC_readInstead bC_readInstead 4 none :: tw
theorem kVC_readInstead {R : Room} {s : State} {args : Array Value} {own : String} {idx : Nat} (h : Cond.methodLink own idx yC_readInstead ∈ tw) (hR : r0C_readInstead.frames + 1 ≤ R.frames ∧ 8 + (4 + 11) + r0C_readInstead.locals ≤ R.locals) : (∀ w ∈ tw, w.before args s = true) → CallW R s args own "TracedCode$Code" idx yC_readInstead bC_readInstead 4 none wC_readInstead r0C_readInstead 0 0 3 := tw_kV 3 wm_267 wm_268 wm_2 wm_269 rfl rfl (by decide +kernel) h hR
abbrev r0C_makeEmpty : Room := { frames := 0, cells := 0, slots := 0, locals := 0 }
abbrev wC_makeEmpty : List Cond := Cond.code yC_makeEmpty bC_makeEmpty 2 none :: tw
theorem kVC_makeEmpty {R : Room} {s : State} {args : Array Value} {own : String} {idx : Nat} (h : Cond.methodLink own idx yC_makeEmpty ∈ tw) (hR : r0C_makeEmpty.frames + 1 ≤ R.frames ∧ 8 + (2 + 11) + r0C_makeEmpty.locals ≤ R.locals) : (∀ w ∈ tw, w.before args s = true) → CallW R s args own "TracedCode$Code" idx yC_makeEmpty bC_makeEmpty 2 none wC_makeEmpty r0C_makeEmpty 0 0 1 := tw_kV 1 wm_272 wm_273 wm_2 wm_274 rfl rfl (by decide +kernel) h hR
abbrev r0S_leaveOutDead : Room := { frames := 4, cells := 0, slots := 0, locals := 95 }
abbrev wS_leaveOutDead : List Cond := Cond.code yS_leaveOutDead bS_leaveOutDead 5 (some .boolean) :: tw
theorem kVS_leaveOutDead {R : Room} {s : State} {args : Array Value} {own : String} {idx : Nat} (h : Cond.methodLink own idx yS_leaveOutDead ∈ tw) (hR : r0S_leaveOutDead.frames + 1 ≤ R.frames ∧ 8 + (5 + 11) + r0S_leaveOutDead.locals ≤ R.locals) : (∀ w ∈ tw, w.before args s = true) → CallW R s args own "TracedCode$Shortener" idx yS_leaveOutDead bS_leaveOutDead 5 (some .boolean) wS_leaveOutDead r0S_leaveOutDead 0 0 1 := tw_kV 1 wm_277 ws_S_leaveOutDead wm_3 wm_278 rfl rfl (by decide +kernel) h hR
abbrev r0S_findLive : Room := { frames := 3, cells := 0, slots := 0, locals := 70 }
abbrev wS_findLive : List Cond := Cond.code yS_findLive bS_findLive 6 none :: tw
theorem kVS_findLive {R : Room} {s : State} {args : Array Value} {own : String} {idx : Nat} (h : Cond.methodLink own idx yS_findLive ∈ tw) (hR : r0S_findLive.frames + 1 ≤ R.frames ∧ 8 + (6 + 11) + r0S_findLive.locals ≤ R.locals) : (∀ w ∈ tw, w.before args s = true) → CallW R s args own "TracedCode$Shortener" idx yS_findLive bS_findLive 6 none wS_findLive r0S_findLive 0 0 1 := tw_kV 1 wm_281 ws_S_findLive wm_3 wm_282 rfl rfl (by decide +kernel) h hR
abbrev r0A_fill : Room := { frames := 0, cells := 0, slots := 0, locals := 0 }
abbrev wA_fill : List Cond := Cond.code yA_fill bA_fill 4 none :: tw
theorem kSA_fill {R : Room} {s : State} {args : Array Value} {own : String} {idx : Nat} (h : Cond.methodLink own idx yA_fill ∈ tw) (hR : r0A_fill.frames + 1 ≤ R.frames ∧ 8 + (4 + 11) + r0A_fill.locals ≤ R.locals) : (∀ w ∈ tw, w.before args s = true) → (CallB R s args own idx yA_fill bA_fill 4 none wA_fill r0A_fill 0 0 2 ∧ (Cond.static yA_fill).before args s = true) := tw_kS 2 wm_284 wm_16 wm_285 rfl rfl (by decide +kernel) h hR
abbrev r0S_liveBefore : Room := { frames := 2, cells := 0, slots := 0, locals := 46 }
abbrev wS_liveBefore : List Cond := Cond.code yS_liveBefore bS_liveBefore 5 (some .int) :: tw
theorem kVS_liveBefore {R : Room} {s : State} {args : Array Value} {own : String} {idx : Nat} (h : Cond.methodLink own idx yS_liveBefore ∈ tw) (hR : r0S_liveBefore.frames + 1 ≤ R.frames ∧ 8 + (5 + 11) + r0S_liveBefore.locals ≤ R.locals) : (∀ w ∈ tw, w.before args s = true) → CallW R s args own "TracedCode$Shortener" idx yS_liveBefore bS_liveBefore 5 (some .int) wS_liveBefore r0S_liveBefore 0 0 2 := tw_kV 2 wm_288 ws_S_liveBefore wm_3 wm_289 rfl rfl (by decide +kernel) h hR
abbrev r0S_liveBehind : Room := { frames := 1, cells := 0, slots := 0, locals := 21 }
abbrev wS_liveBehind : List Cond := Cond.code yS_liveBehind bS_liveBehind 3 (some .int) :: tw
theorem kVS_liveBehind {R : Room} {s : State} {args : Array Value} {own : String} {idx : Nat} (h : Cond.methodLink own idx yS_liveBehind ∈ tw) (hR : r0S_liveBehind.frames + 1 ≤ R.frames ∧ 8 + (3 + 11) + r0S_liveBehind.locals ≤ R.locals) : (∀ w ∈ tw, w.before args s = true) → CallW R s args own "TracedCode$Shortener" idx yS_liveBehind bS_liveBehind 3 (some .int) wS_liveBehind r0S_liveBehind 0 0 2 := tw_kV 2 wm_293 ws_S_liveBehind wm_3 wm_294 rfl rfl (by decide +kernel) h hR
abbrev r0C_needed : Room := { frames := 1, cells := 0, slots := 0, locals := 23 }
abbrev wC_needed : List Cond := Cond.code yC_needed bC_needed 4 (some .int) :: tw
theorem kVC_needed {R : Room} {s : State} {args : Array Value} {own : String} {idx : Nat} (h : Cond.methodLink own idx yC_needed ∈ tw) (hR : r0C_needed.frames + 1 ≤ R.frames ∧ 8 + (4 + 11) + r0C_needed.locals ≤ R.locals) : (∀ w ∈ tw, w.before args s = true) → CallW R s args own "TracedCode$Code" idx yC_needed bC_needed 4 (some .int) wC_needed r0C_needed 0 0 1 := tw_kV 1 wm_297 wm_298 wm_2 wm_299 rfl rfl (by decide +kernel) h hR
abbrev r0K_find : Room := { frames := 4, cells := 0, slots := 0, locals := 96 }
abbrev wK_find : List Cond := Cond.code yK_find bK_find 4 none :: tw
theorem kVK_find {R : Room} {s : State} {args : Array Value} {own : String} {idx : Nat} (h : Cond.methodLink own idx yK_find ∈ tw) (hR : r0K_find.frames + 1 ≤ R.frames ∧ 8 + (4 + 11) + r0K_find.locals ≤ R.locals) : (∀ w ∈ tw, w.before args s = true) → CallW R s args own "TracedCode$Carriers" idx yK_find bK_find 4 none wK_find r0K_find 0 0 2 := tw_kV 2 wm_302 wm_303 wm_6 wm_304 rfl rfl (by decide +kernel) h hR
abbrev r0R_begin : Room := { frames := 2, cells := 0, slots := 0, locals := 43 }
abbrev wR_begin : List Cond := Cond.code yR_begin bR_begin 2 none :: tw
theorem kVR_begin {R : Room} {s : State} {args : Array Value} {own : String} {idx : Nat} (h : Cond.methodLink own idx yR_begin ∈ tw) (hR : r0R_begin.frames + 1 ≤ R.frames ∧ 8 + (2 + 11) + r0R_begin.locals ≤ R.locals) : (∀ w ∈ tw, w.before args s = true) → CallW R s args own "TracedCode$Run" idx yR_begin bR_begin 2 none wR_begin r0R_begin 0 0 0 := tw_kV 0 wm_309 wm_310 wm_7 wm_311 rfl rfl (by decide +kernel) h hR
abbrev r0M_begin : Room := { frames := 1, cells := 0, slots := 0, locals := 23 }
abbrev wM_begin : List Cond := Cond.code yM_begin bM_begin 1 none :: tw
theorem kVM_begin {R : Room} {s : State} {args : Array Value} {own : String} {idx : Nat} (h : Cond.methodLink own idx yM_begin ∈ tw) (hR : r0M_begin.frames + 1 ≤ R.frames ∧ 8 + (1 + 11) + r0M_begin.locals ≤ R.locals) : (∀ w ∈ tw, w.before args s = true) → CallW R s args own "TracedCode$Machine" idx yM_begin bM_begin 1 none wM_begin r0M_begin 0 0 0 := tw_kV 0 wm_313 wm_314 wm_8 wm_315 rfl rfl (by decide +kernel) h hR
abbrev r0T_set : Room := { frames := 8, cells := 0, slots := 0, locals := 140 }
abbrev wT_set : List Cond := Cond.code yT_set bT_set 3 (some .int) :: tw
abbrev r1T_set : Room := { frames := 8, cells := 1, slots := 6, locals := 140 }
theorem kVT_set {R : Room} {s : State} {args : Array Value} {own : String} {idx : Nat} (h : Cond.methodLink own idx yT_set ∈ tw) (hR : r0T_set.frames + 1 ≤ R.frames ∧ 8 + (3 + 11) + r0T_set.locals ≤ R.locals) : (∀ w ∈ tw, w.before args s = true) → CallW R s args own "TracedCode" idx yT_set bT_set 3 (some .int) wT_set r0T_set 0 0 2 := tw_kV 2 wm_323 wm_324 wm_1 wm_325 rfl rfl (by decide +kernel) h hR
theorem kV1T_set {R : Room} {s : State} {args : Array Value} {own : String} {idx : Nat} (h : Cond.methodLink own idx yT_set ∈ tw) (hR : r1T_set.frames + 1 ≤ R.frames ∧ 8 + (3 + 11) + r1T_set.locals ≤ R.locals) : (∀ w ∈ tw, w.before args s = true) → CallW R s args own "TracedCode" idx yT_set bT_set 3 (some .int) wT_set r1T_set 1 6 2 := tw_kV 2 wm_323 wm_324 wm_1 wm_325 rfl rfl (by decide +kernel) h hR
abbrev r0T_isRegister : Room := { frames := 1, cells := 0, slots := 0, locals := 21 }
abbrev wT_isRegister : List Cond := Cond.code yT_isRegister bT_isRegister 1 (some .boolean) :: tw
theorem kST_isRegister {R : Room} {s : State} {args : Array Value} {own : String} {idx : Nat} (h : Cond.methodLink own idx yT_isRegister ∈ tw) (hR : r0T_isRegister.frames + 1 ≤ R.frames ∧ 8 + (1 + 11) + r0T_isRegister.locals ≤ R.locals) : (∀ w ∈ tw, w.before args s = true) → (CallB R s args own idx yT_isRegister bT_isRegister 1 (some .boolean) wT_isRegister r0T_isRegister 0 0 1 ∧ (Cond.static yT_isRegister).before args s = true) := tw_kS 1 wm_327 wm_1 wm_328 rfl rfl (by decide +kernel) h hR
abbrev r0T_isBelow : Room := { frames := 0, cells := 0, slots := 0, locals := 0 }
abbrev wT_isBelow : List Cond := Cond.code yT_isBelow bT_isBelow 2 (some .boolean) :: tw
theorem kST_isBelow {R : Room} {s : State} {args : Array Value} {own : String} {idx : Nat} (h : Cond.methodLink own idx yT_isBelow ∈ tw) (hR : r0T_isBelow.frames + 1 ≤ R.frames ∧ 8 + (2 + 11) + r0T_isBelow.locals ≤ R.locals) : (∀ w ∈ tw, w.before args s = true) → (CallB R s args own idx yT_isBelow bT_isBelow 2 (some .boolean) wT_isBelow r0T_isBelow 0 0 2 ∧ (Cond.static yT_isBelow).before args s = true) := tw_kS 2 wm_330 wm_1 wm_331 rfl rfl (by decide +kernel) h hR
abbrev r0T_requireArgument : Room := { frames := 6, cells := 0, slots := 0, locals := 96 }
abbrev wT_requireArgument : List Cond := Cond.code yT_requireArgument bT_requireArgument 1 none :: tw
abbrev r1T_requireArgument : Room := { frames := 6, cells := 1, slots := 6, locals := 96 }
theorem kST_requireArgument {R : Room} {s : State} {args : Array Value} {own : String} {idx : Nat} (h : Cond.methodLink own idx yT_requireArgument ∈ tw) (hR : r0T_requireArgument.frames + 1 ≤ R.frames ∧ 8 + (1 + 11) + r0T_requireArgument.locals ≤ R.locals) : (∀ w ∈ tw, w.before args s = true) → (CallB R s args own idx yT_requireArgument bT_requireArgument 1 none wT_requireArgument r0T_requireArgument 0 0 1 ∧ (Cond.static yT_requireArgument).before args s = true) := tw_kS 1 wm_333 wm_1 wm_334 rfl rfl (by decide +kernel) h hR
theorem kS1T_requireArgument {R : Room} {s : State} {args : Array Value} {own : String} {idx : Nat} (h : Cond.methodLink own idx yT_requireArgument ∈ tw) (hR : r1T_requireArgument.frames + 1 ≤ R.frames ∧ 8 + (1 + 11) + r1T_requireArgument.locals ≤ R.locals) : (∀ w ∈ tw, w.before args s = true) → (CallB R s args own idx yT_requireArgument bT_requireArgument 1 none wT_requireArgument r1T_requireArgument 1 6 1 ∧ (Cond.static yT_requireArgument).before args s = true) := tw_kS 1 wm_333 wm_1 wm_334 rfl rfl (by decide +kernel) h hR
abbrev r0T_newLine : Room := { frames := 7, cells := 0, slots := 0, locals := 116 }
abbrev wT_newLine : List Cond := Cond.code yT_newLine bT_newLine 5 (some .int) :: tw
abbrev r1T_newLine : Room := { frames := 7, cells := 1, slots := 6, locals := 116 }
theorem kVT_newLine {R : Room} {s : State} {args : Array Value} {own : String} {idx : Nat} (h : Cond.methodLink own idx yT_newLine ∈ tw) (hR : r0T_newLine.frames + 1 ≤ R.frames ∧ 8 + (5 + 11) + r0T_newLine.locals ≤ R.locals) : (∀ w ∈ tw, w.before args s = true) → CallW R s args own "TracedCode" idx yT_newLine bT_newLine 5 (some .int) wT_newLine r0T_newLine 0 0 4 := tw_kV 4 wm_401 ws_T_newLine wm_1 wm_402 rfl rfl (by decide +kernel) h hR
theorem kV1T_newLine {R : Room} {s : State} {args : Array Value} {own : String} {idx : Nat} (h : Cond.methodLink own idx yT_newLine ∈ tw) (hR : r1T_newLine.frames + 1 ≤ R.frames ∧ 8 + (5 + 11) + r1T_newLine.locals ≤ R.locals) : (∀ w ∈ tw, w.before args s = true) → CallW R s args own "TracedCode" idx yT_newLine bT_newLine 5 (some .int) wT_newLine r1T_newLine 1 6 4 := tw_kV 4 wm_401 ws_T_newLine wm_1 wm_402 rfl rfl (by decide +kernel) h hR
abbrev r0T_requireState : Room := { frames := 6, cells := 0, slots := 0, locals := 96 }
abbrev wT_requireState : List Cond := Cond.code yT_requireState bT_requireState 1 none :: tw
abbrev r1T_requireState : Room := { frames := 6, cells := 1, slots := 6, locals := 96 }
theorem kST_requireState {R : Room} {s : State} {args : Array Value} {own : String} {idx : Nat} (h : Cond.methodLink own idx yT_requireState ∈ tw) (hR : r0T_requireState.frames + 1 ≤ R.frames ∧ 8 + (1 + 11) + r0T_requireState.locals ≤ R.locals) : (∀ w ∈ tw, w.before args s = true) → (CallB R s args own idx yT_requireState bT_requireState 1 none wT_requireState r0T_requireState 0 0 1 ∧ (Cond.static yT_requireState).before args s = true) := tw_kS 1 wm_405 wm_1 wm_406 rfl rfl (by decide +kernel) h hR
theorem kS1T_requireState {R : Room} {s : State} {args : Array Value} {own : String} {idx : Nat} (h : Cond.methodLink own idx yT_requireState ∈ tw) (hR : r1T_requireState.frames + 1 ≤ R.frames ∧ 8 + (1 + 11) + r1T_requireState.locals ≤ R.locals) : (∀ w ∈ tw, w.before args s = true) → (CallB R s args own idx yT_requireState bT_requireState 1 none wT_requireState r1T_requireState 1 6 1 ∧ (Cond.static yT_requireState).before args s = true) := tw_kS 1 wm_405 wm_1 wm_406 rfl rfl (by decide +kernel) h hR
abbrev r0C_append : Room := { frames := 0, cells := 0, slots := 0, locals := 0 }
abbrev wC_append : List Cond := Cond.code yC_append bC_append 6 (some .int) :: tw
theorem kVC_append {R : Room} {s : State} {args : Array Value} {own : String} {idx : Nat} (h : Cond.methodLink own idx yC_append ∈ tw) (hR : r0C_append.frames + 1 ≤ R.frames ∧ 8 + (6 + 11) + r0C_append.locals ≤ R.locals) : (∀ w ∈ tw, w.before args s = true) → CallW R s args own "TracedCode$Code" idx yC_append bC_append 6 (some .int) wC_append r0C_append 0 0 4 := tw_kV 4 wm_423 wm_424 wm_2 wm_425 rfl rfl (by decide +kernel) h hR
abbrev r0T_copy : Room := { frames := 8, cells := 0, slots := 0, locals := 140 }
abbrev wT_copy : List Cond := Cond.code yT_copy bT_copy 3 (some .int) :: tw
abbrev r1T_copy : Room := { frames := 8, cells := 1, slots := 6, locals := 140 }
theorem kVT_copy {R : Room} {s : State} {args : Array Value} {own : String} {idx : Nat} (h : Cond.methodLink own idx yT_copy ∈ tw) (hR : r0T_copy.frames + 1 ≤ R.frames ∧ 8 + (3 + 11) + r0T_copy.locals ≤ R.locals) : (∀ w ∈ tw, w.before args s = true) → CallW R s args own "TracedCode" idx yT_copy bT_copy 3 (some .int) wT_copy r0T_copy 0 0 2 := tw_kV 2 wm_430 wm_431 wm_1 wm_432 rfl rfl (by decide +kernel) h hR
theorem kV1T_copy {R : Room} {s : State} {args : Array Value} {own : String} {idx : Nat} (h : Cond.methodLink own idx yT_copy ∈ tw) (hR : r1T_copy.frames + 1 ≤ R.frames ∧ 8 + (3 + 11) + r1T_copy.locals ≤ R.locals) : (∀ w ∈ tw, w.before args s = true) → CallW R s args own "TracedCode" idx yT_copy bT_copy 3 (some .int) wT_copy r1T_copy 1 6 2 := tw_kV 2 wm_430 wm_431 wm_1 wm_432 rfl rfl (by decide +kernel) h hR
abbrev r0T_add : Room := { frames := 8, cells := 0, slots := 0, locals := 140 }
abbrev wT_add : List Cond := Cond.code yT_add bT_add 4 (some .int) :: tw
abbrev r1T_add : Room := { frames := 8, cells := 1, slots := 6, locals := 140 }
theorem kVT_add {R : Room} {s : State} {args : Array Value} {own : String} {idx : Nat} (h : Cond.methodLink own idx yT_add ∈ tw) (hR : r0T_add.frames + 1 ≤ R.frames ∧ 8 + (4 + 11) + r0T_add.locals ≤ R.locals) : (∀ w ∈ tw, w.before args s = true) → CallW R s args own "TracedCode" idx yT_add bT_add 4 (some .int) wT_add r0T_add 0 0 3 := tw_kV 3 wm_437 wm_438 wm_1 wm_439 rfl rfl (by decide +kernel) h hR
theorem kV1T_add {R : Room} {s : State} {args : Array Value} {own : String} {idx : Nat} (h : Cond.methodLink own idx yT_add ∈ tw) (hR : r1T_add.frames + 1 ≤ R.frames ∧ 8 + (4 + 11) + r1T_add.locals ≤ R.locals) : (∀ w ∈ tw, w.before args s = true) → CallW R s args own "TracedCode" idx yT_add bT_add 4 (some .int) wT_add r1T_add 1 6 3 := tw_kV 3 wm_437 wm_438 wm_1 wm_439 rfl rfl (by decide +kernel) h hR
abbrev r0T_out : Room := { frames := 8, cells := 0, slots := 0, locals := 140 }
abbrev wT_out : List Cond := Cond.code yT_out bT_out 2 (some .int) :: tw
abbrev r1T_out : Room := { frames := 8, cells := 1, slots := 6, locals := 140 }
theorem kVT_out {R : Room} {s : State} {args : Array Value} {own : String} {idx : Nat} (h : Cond.methodLink own idx yT_out ∈ tw) (hR : r0T_out.frames + 1 ≤ R.frames ∧ 8 + (2 + 11) + r0T_out.locals ≤ R.locals) : (∀ w ∈ tw, w.before args s = true) → CallW R s args own "TracedCode" idx yT_out bT_out 2 (some .int) wT_out r0T_out 0 0 1 := tw_kV 1 wm_444 wm_445 wm_1 wm_446 rfl rfl (by decide +kernel) h hR
theorem kV1T_out {R : Room} {s : State} {args : Array Value} {own : String} {idx : Nat} (h : Cond.methodLink own idx yT_out ∈ tw) (hR : r1T_out.frames + 1 ≤ R.frames ∧ 8 + (2 + 11) + r1T_out.locals ≤ R.locals) : (∀ w ∈ tw, w.before args s = true) → CallW R s args own "TracedCode" idx yT_out bT_out 2 (some .int) wT_out r1T_out 1 6 1 := tw_kV 1 wm_444 wm_445 wm_1 wm_446 rfl rfl (by decide +kernel) h hR
abbrev r0T_jump : Room := { frames := 8, cells := 0, slots := 0, locals := 140 }
abbrev wT_jump : List Cond := Cond.code yT_jump bT_jump 3 (some .int) :: tw
abbrev r1T_jump : Room := { frames := 8, cells := 1, slots := 6, locals := 140 }
theorem kVT_jump {R : Room} {s : State} {args : Array Value} {own : String} {idx : Nat} (h : Cond.methodLink own idx yT_jump ∈ tw) (hR : r0T_jump.frames + 1 ≤ R.frames ∧ 8 + (3 + 11) + r0T_jump.locals ≤ R.locals) : (∀ w ∈ tw, w.before args s = true) → CallW R s args own "TracedCode" idx yT_jump bT_jump 3 (some .int) wT_jump r0T_jump 0 0 2 := tw_kV 2 wm_451 wm_452 wm_1 wm_453 rfl rfl (by decide +kernel) h hR
theorem kV1T_jump {R : Room} {s : State} {args : Array Value} {own : String} {idx : Nat} (h : Cond.methodLink own idx yT_jump ∈ tw) (hR : r1T_jump.frames + 1 ≤ R.frames ∧ 8 + (3 + 11) + r1T_jump.locals ≤ R.locals) : (∀ w ∈ tw, w.before args s = true) → CallW R s args own "TracedCode" idx yT_jump bT_jump 3 (some .int) wT_jump r1T_jump 1 6 2 := tw_kV 2 wm_451 wm_452 wm_1 wm_453 rfl rfl (by decide +kernel) h hR
abbrev r0T_name : Room := { frames := 8, cells := 0, slots := 0, locals := 140 }
abbrev wT_name : List Cond := Cond.code yT_name bT_name 3 (some .int) :: tw
abbrev r1T_name : Room := { frames := 8, cells := 1, slots := 6, locals := 140 }
theorem kVT_name {R : Room} {s : State} {args : Array Value} {own : String} {idx : Nat} (h : Cond.methodLink own idx yT_name ∈ tw) (hR : r0T_name.frames + 1 ≤ R.frames ∧ 8 + (3 + 11) + r0T_name.locals ≤ R.locals) : (∀ w ∈ tw, w.before args s = true) → CallW R s args own "TracedCode" idx yT_name bT_name 3 (some .int) wT_name r0T_name 0 0 2 := tw_kV 2 wm_458 wm_459 wm_1 wm_460 rfl rfl (by decide +kernel) h hR
theorem kV1T_name {R : Room} {s : State} {args : Array Value} {own : String} {idx : Nat} (h : Cond.methodLink own idx yT_name ∈ tw) (hR : r1T_name.frames + 1 ≤ R.frames ∧ 8 + (3 + 11) + r1T_name.locals ≤ R.locals) : (∀ w ∈ tw, w.before args s = true) → CallW R s args own "TracedCode" idx yT_name bT_name 3 (some .int) wT_name r1T_name 1 6 2 := tw_kV 2 wm_458 wm_459 wm_1 wm_460 rfl rfl (by decide +kernel) h hR
abbrev r0T_isVariable : Room := { frames := 1, cells := 0, slots := 0, locals := 21 }
abbrev wT_isVariable : List Cond := Cond.code yT_isVariable bT_isVariable 1 (some .boolean) :: tw
theorem kST_isVariable {R : Room} {s : State} {args : Array Value} {own : String} {idx : Nat} (h : Cond.methodLink own idx yT_isVariable ∈ tw) (hR : r0T_isVariable.frames + 1 ≤ R.frames ∧ 8 + (1 + 11) + r0T_isVariable.locals ≤ R.locals) : (∀ w ∈ tw, w.before args s = true) → (CallB R s args own idx yT_isVariable bT_isVariable 1 (some .boolean) wT_isVariable r0T_isVariable 0 0 1 ∧ (Cond.static yT_isVariable).before args s = true) := tw_kS 1 wm_462 wm_1 wm_463 rfl rfl (by decide +kernel) h hR
abbrev r0T_kept : Room := { frames := 8, cells := 0, slots := 0, locals := 136 }
abbrev wT_kept : List Cond := Cond.code yT_kept bT_kept 1 (some .int) :: tw
abbrev r1T_kept : Room := { frames := 8, cells := 1, slots := 6, locals := 136 }
theorem kVT_kept {R : Room} {s : State} {args : Array Value} {own : String} {idx : Nat} (h : Cond.methodLink own idx yT_kept ∈ tw) (hR : r0T_kept.frames + 1 ≤ R.frames ∧ 8 + (1 + 11) + r0T_kept.locals ≤ R.locals) : (∀ w ∈ tw, w.before args s = true) → CallW R s args own "TracedCode" idx yT_kept bT_kept 1 (some .int) wT_kept r0T_kept 0 0 0 := tw_kV 0 wm_468 wm_469 wm_1 wm_470 rfl rfl (by decide +kernel) h hR
theorem kV1T_kept {R : Room} {s : State} {args : Array Value} {own : String} {idx : Nat} (h : Cond.methodLink own idx yT_kept ∈ tw) (hR : r1T_kept.frames + 1 ≤ R.frames ∧ 8 + (1 + 11) + r1T_kept.locals ≤ R.locals) : (∀ w ∈ tw, w.before args s = true) → CallW R s args own "TracedCode" idx yT_kept bT_kept 1 (some .int) wT_kept r1T_kept 1 6 0 := tw_kV 0 wm_468 wm_469 wm_1 wm_470 rfl rfl (by decide +kernel) h hR
abbrev r0T_requireShortProgram : Room := { frames := 7, cells := 0, slots := 0, locals := 116 }
abbrev wT_requireShortProgram : List Cond := Cond.code yT_requireShortProgram bT_requireShortProgram 1 none :: tw
abbrev r1T_requireShortProgram : Room := { frames := 7, cells := 1, slots := 6, locals := 116 }
theorem kVT_requireShortProgram {R : Room} {s : State} {args : Array Value} {own : String} {idx : Nat} (h : Cond.methodLink own idx yT_requireShortProgram ∈ tw) (hR : r0T_requireShortProgram.frames + 1 ≤ R.frames ∧ 8 + (1 + 11) + r0T_requireShortProgram.locals ≤ R.locals) : (∀ w ∈ tw, w.before args s = true) → CallW R s args own "TracedCode" idx yT_requireShortProgram bT_requireShortProgram 1 none wT_requireShortProgram r0T_requireShortProgram 0 0 0 := tw_kV 0 wm_473 ws_T_requireShortProgram wm_1 wm_474 rfl rfl (by decide +kernel) h hR
theorem kV1T_requireShortProgram {R : Room} {s : State} {args : Array Value} {own : String} {idx : Nat} (h : Cond.methodLink own idx yT_requireShortProgram ∈ tw) (hR : r1T_requireShortProgram.frames + 1 ≤ R.frames ∧ 8 + (1 + 11) + r1T_requireShortProgram.locals ≤ R.locals) : (∀ w ∈ tw, w.before args s = true) → CallW R s args own "TracedCode" idx yT_requireShortProgram bT_requireShortProgram 1 none wT_requireShortProgram r1T_requireShortProgram 1 6 0 := tw_kV 0 wm_473 ws_T_requireShortProgram wm_1 wm_474 rfl rfl (by decide +kernel) h hR
abbrev r0C_fullLines : Room := { frames := 1, cells := 0, slots := 0, locals := 21 }
abbrev wC_fullLines : List Cond := Cond.code yC_fullLines bC_fullLines 3 (some .int) :: tw
theorem kVC_fullLines {R : Room} {s : State} {args : Array Value} {own : String} {idx : Nat} (h : Cond.methodLink own idx yC_fullLines ∈ tw) (hR : r0C_fullLines.frames + 1 ≤ R.frames ∧ 8 + (3 + 11) + r0C_fullLines.locals ≤ R.locals) : (∀ w ∈ tw, w.before args s = true) → CallW R s args own "TracedCode$Code" idx yC_fullLines bC_fullLines 3 (some .int) wC_fullLines r0C_fullLines 0 0 0 := tw_kV 0 wm_476 wm_477 wm_2 wm_478 rfl rfl (by decide +kernel) h hR
abbrev r0T_part : Room := { frames := 8, cells := 0, slots := 0, locals := 136 }
abbrev wT_part : List Cond := Cond.code yT_part bT_part 3 (some .int) :: tw
abbrev r1T_part : Room := { frames := 8, cells := 1, slots := 6, locals := 136 }
theorem kVT_part {R : Room} {s : State} {args : Array Value} {own : String} {idx : Nat} (h : Cond.methodLink own idx yT_part ∈ tw) (hR : r0T_part.frames + 1 ≤ R.frames ∧ 8 + (3 + 11) + r0T_part.locals ≤ R.locals) : (∀ w ∈ tw, w.before args s = true) → CallW R s args own "TracedCode" idx yT_part bT_part 3 (some .int) wT_part r0T_part 0 0 2 := tw_kV 2 wm_485 wm_486 wm_1 wm_487 rfl rfl (by decide +kernel) h hR
theorem kV1T_part {R : Room} {s : State} {args : Array Value} {own : String} {idx : Nat} (h : Cond.methodLink own idx yT_part ∈ tw) (hR : r1T_part.frames + 1 ≤ R.frames ∧ 8 + (3 + 11) + r1T_part.locals ≤ R.locals) : (∀ w ∈ tw, w.before args s = true) → CallW R s args own "TracedCode" idx yT_part bT_part 3 (some .int) wT_part r1T_part 1 6 2 := tw_kV 2 wm_485 wm_486 wm_1 wm_487 rfl rfl (by decide +kernel) h hR
abbrev r0T_requireIndex : Room := { frames := 6, cells := 0, slots := 0, locals := 96 }
abbrev wT_requireIndex : List Cond := Cond.code yT_requireIndex bT_requireIndex 1 none :: tw
abbrev r1T_requireIndex : Room := { frames := 6, cells := 1, slots := 6, locals := 96 }
theorem kST_requireIndex {R : Room} {s : State} {args : Array Value} {own : String} {idx : Nat} (h : Cond.methodLink own idx yT_requireIndex ∈ tw) (hR : r0T_requireIndex.frames + 1 ≤ R.frames ∧ 8 + (1 + 11) + r0T_requireIndex.locals ≤ R.locals) : (∀ w ∈ tw, w.before args s = true) → (CallB R s args own idx yT_requireIndex bT_requireIndex 1 none wT_requireIndex r0T_requireIndex 0 0 1 ∧ (Cond.static yT_requireIndex).before args s = true) := tw_kS 1 wm_489 wm_1 wm_490 rfl rfl (by decide +kernel) h hR
theorem kS1T_requireIndex {R : Room} {s : State} {args : Array Value} {own : String} {idx : Nat} (h : Cond.methodLink own idx yT_requireIndex ∈ tw) (hR : r1T_requireIndex.frames + 1 ≤ R.frames ∧ 8 + (1 + 11) + r1T_requireIndex.locals ≤ R.locals) : (∀ w ∈ tw, w.before args s = true) → (CallB R s args own idx yT_requireIndex bT_requireIndex 1 none wT_requireIndex r1T_requireIndex 1 6 1 ∧ (Cond.static yT_requireIndex).before args s = true) := tw_kS 1 wm_489 wm_1 wm_490 rfl rfl (by decide +kernel) h hR
abbrev r0T_where : Room := { frames := 8, cells := 0, slots := 0, locals := 136 }
abbrev wT_where : List Cond := Cond.code yT_where bT_where 3 (some .int) :: tw
abbrev r1T_where : Room := { frames := 8, cells := 1, slots := 6, locals := 136 }
theorem kVT_where {R : Room} {s : State} {args : Array Value} {own : String} {idx : Nat} (h : Cond.methodLink own idx yT_where ∈ tw) (hR : r0T_where.frames + 1 ≤ R.frames ∧ 8 + (3 + 11) + r0T_where.locals ≤ R.locals) : (∀ w ∈ tw, w.before args s = true) → CallW R s args own "TracedCode" idx yT_where bT_where 3 (some .int) wT_where r0T_where 0 0 2 := tw_kV 2 wm_511 wm_512 wm_1 wm_513 rfl rfl (by decide +kernel) h hR
theorem kV1T_where {R : Room} {s : State} {args : Array Value} {own : String} {idx : Nat} (h : Cond.methodLink own idx yT_where ∈ tw) (hR : r1T_where.frames + 1 ≤ R.frames ∧ 8 + (3 + 11) + r1T_where.locals ≤ R.locals) : (∀ w ∈ tw, w.before args s = true) → CallW R s args own "TracedCode" idx yT_where bT_where 3 (some .int) wT_where r1T_where 1 6 2 := tw_kV 2 wm_511 wm_512 wm_1 wm_513 rfl rfl (by decide +kernel) h hR
abbrev r0T_isPoint : Room := { frames := 1, cells := 0, slots := 0, locals := 21 }
abbrev wT_isPoint : List Cond := Cond.code yT_isPoint bT_isPoint 2 (some .boolean) :: tw
theorem kVT_isPoint {R : Room} {s : State} {args : Array Value} {own : String} {idx : Nat} (h : Cond.methodLink own idx yT_isPoint ∈ tw) (hR : r0T_isPoint.frames + 1 ≤ R.frames ∧ 8 + (2 + 11) + r0T_isPoint.locals ≤ R.locals) : (∀ w ∈ tw, w.before args s = true) → CallW R s args own "TracedCode" idx yT_isPoint bT_isPoint 2 (some .boolean) wT_isPoint r0T_isPoint 0 0 1 := tw_kV 1 wm_516 ws_T_isPoint wm_1 wm_517 rfl rfl (by decide +kernel) h hR
abbrev r0K_placeOfVariable : Room := { frames := 0, cells := 0, slots := 0, locals := 0 }
abbrev wK_placeOfVariable : List Cond := Cond.code yK_placeOfVariable bK_placeOfVariable 4 (some .int) :: tw
theorem kVK_placeOfVariable {R : Room} {s : State} {args : Array Value} {own : String} {idx : Nat} (h : Cond.methodLink own idx yK_placeOfVariable ∈ tw) (hR : r0K_placeOfVariable.frames + 1 ≤ R.frames ∧ 8 + (4 + 11) + r0K_placeOfVariable.locals ≤ R.locals) : (∀ w ∈ tw, w.before args s = true) → CallW R s args own "TracedCode$Carriers" idx yK_placeOfVariable bK_placeOfVariable 4 (some .int) wK_placeOfVariable r0K_placeOfVariable 0 0 2 := tw_kV 2 wm_519 wm_520 wm_6 wm_521 rfl rfl (by decide +kernel) h hR
abbrev r0T_carriers : Room := { frames := 8, cells := 0, slots := 0, locals := 136 }
abbrev wT_carriers : List Cond := Cond.code yT_carriers bT_carriers 3 (some .int) :: tw
abbrev r1T_carriers : Room := { frames := 8, cells := 1, slots := 6, locals := 136 }
theorem kVT_carriers {R : Room} {s : State} {args : Array Value} {own : String} {idx : Nat} (h : Cond.methodLink own idx yT_carriers ∈ tw) (hR : r0T_carriers.frames + 1 ≤ R.frames ∧ 8 + (3 + 11) + r0T_carriers.locals ≤ R.locals) : (∀ w ∈ tw, w.before args s = true) → CallW R s args own "TracedCode" idx yT_carriers bT_carriers 3 (some .int) wT_carriers r0T_carriers 0 0 2 := tw_kV 2 wm_526 wm_527 wm_1 wm_528 rfl rfl (by decide +kernel) h hR
theorem kV1T_carriers {R : Room} {s : State} {args : Array Value} {own : String} {idx : Nat} (h : Cond.methodLink own idx yT_carriers ∈ tw) (hR : r1T_carriers.frames + 1 ≤ R.frames ∧ 8 + (3 + 11) + r1T_carriers.locals ≤ R.locals) : (∀ w ∈ tw, w.before args s = true) → CallW R s args own "TracedCode" idx yT_carriers bT_carriers 3 (some .int) wT_carriers r1T_carriers 1 6 2 := tw_kV 2 wm_526 wm_527 wm_1 wm_528 rfl rfl (by decide +kernel) h hR
abbrev r0K_ofRegister : Room := { frames := 0, cells := 0, slots := 0, locals := 0 }
abbrev wK_ofRegister : List Cond := Cond.code yK_ofRegister bK_ofRegister 3 (some .int) :: tw
theorem kVK_ofRegister {R : Room} {s : State} {args : Array Value} {own : String} {idx : Nat} (h : Cond.methodLink own idx yK_ofRegister ∈ tw) (hR : r0K_ofRegister.frames + 1 ≤ R.frames ∧ 8 + (3 + 11) + r0K_ofRegister.locals ≤ R.locals) : (∀ w ∈ tw, w.before args s = true) → CallW R s args own "TracedCode$Carriers" idx yK_ofRegister bK_ofRegister 3 (some .int) wK_ofRegister r0K_ofRegister 0 0 2 := tw_kV 2 wm_530 wm_531 wm_6 wm_532 rfl rfl (by decide +kernel) h hR
abbrev r0T_restart : Room := { frames := 8, cells := 0, slots := 0, locals := 136 }
abbrev wT_restart : List Cond := Cond.code yT_restart bT_restart 1 none :: tw
abbrev r1T_restart : Room := { frames := 8, cells := 1, slots := 6, locals := 136 }
theorem kVT_restart {R : Room} {s : State} {args : Array Value} {own : String} {idx : Nat} (h : Cond.methodLink own idx yT_restart ∈ tw) (hR : r0T_restart.frames + 1 ≤ R.frames ∧ 8 + (1 + 11) + r0T_restart.locals ≤ R.locals) : (∀ w ∈ tw, w.before args s = true) → CallW R s args own "TracedCode" idx yT_restart bT_restart 1 none wT_restart r0T_restart 0 0 0 := tw_kV 0 wm_537 wm_538 wm_1 wm_539 rfl rfl (by decide +kernel) h hR
theorem kV1T_restart {R : Room} {s : State} {args : Array Value} {own : String} {idx : Nat} (h : Cond.methodLink own idx yT_restart ∈ tw) (hR : r1T_restart.frames + 1 ≤ R.frames ∧ 8 + (1 + 11) + r1T_restart.locals ≤ R.locals) : (∀ w ∈ tw, w.before args s = true) → CallW R s args own "TracedCode" idx yT_restart bT_restart 1 none wT_restart r1T_restart 1 6 0 := tw_kV 0 wm_537 wm_538 wm_1 wm_539 rfl rfl (by decide +kernel) h hR
abbrev r0T_step : Room := { frames := 8, cells := 0, slots := 0, locals := 136 }
abbrev wT_step : List Cond := Cond.code yT_step bT_step 1 (some .int) :: tw
abbrev r1T_step : Room := { frames := 8, cells := 1, slots := 6, locals := 136 }
theorem kVT_step {R : Room} {s : State} {args : Array Value} {own : String} {idx : Nat} (h : Cond.methodLink own idx yT_step ∈ tw) (hR : r0T_step.frames + 1 ≤ R.frames ∧ 8 + (1 + 11) + r0T_step.locals ≤ R.locals) : (∀ w ∈ tw, w.before args s = true) → CallW R s args own "TracedCode" idx yT_step bT_step 1 (some .int) wT_step r0T_step 0 0 0 := tw_kV 0 wm_544 wm_545 wm_1 wm_546 rfl rfl (by decide +kernel) h hR
theorem kV1T_step {R : Room} {s : State} {args : Array Value} {own : String} {idx : Nat} (h : Cond.methodLink own idx yT_step ∈ tw) (hR : r1T_step.frames + 1 ≤ R.frames ∧ 8 + (1 + 11) + r1T_step.locals ≤ R.locals) : (∀ w ∈ tw, w.before args s = true) → CallW R s args own "TracedCode" idx yT_step bT_step 1 (some .int) wT_step r1T_step 1 6 0 := tw_kV 0 wm_544 wm_545 wm_1 wm_546 rfl rfl (by decide +kernel) h hR
abbrev r0R_advance : Room := { frames := 2, cells := 0, slots := 0, locals := 46 }
abbrev wR_advance : List Cond := Cond.code yR_advance bR_advance 3 (some .int) :: tw
theorem kVR_advance {R : Room} {s : State} {args : Array Value} {own : String} {idx : Nat} (h : Cond.methodLink own idx yR_advance ∈ tw) (hR : r0R_advance.frames + 1 ≤ R.frames ∧ 8 + (3 + 11) + r0R_advance.locals ≤ R.locals) : (∀ w ∈ tw, w.before args s = true) → CallW R s args own "TracedCode$Run" idx yR_advance bR_advance 3 (some .int) wR_advance r0R_advance 0 0 2 := tw_kV 2 wm_548 wm_549 wm_7 wm_550 rfl rfl (by decide +kernel) h hR
abbrev r0M_content : Room := { frames := 0, cells := 0, slots := 0, locals := 0 }
abbrev wM_content : List Cond := Cond.code yM_content bM_content 2 (some .int) :: tw
theorem kVM_content {R : Room} {s : State} {args : Array Value} {own : String} {idx : Nat} (h : Cond.methodLink own idx yM_content ∈ tw) (hR : r0M_content.frames + 1 ≤ R.frames ∧ 8 + (2 + 11) + r0M_content.locals ≤ R.locals) : (∀ w ∈ tw, w.before args s = true) → CallW R s args own "TracedCode$Machine" idx yM_content bM_content 2 (some .int) wM_content r0M_content 0 0 1 := tw_kV 1 wm_555 wm_556 wm_8 wm_557 rfl rfl (by decide +kernel) h hR
abbrev r0R_giveValue : Room := { frames := 0, cells := 0, slots := 0, locals := 0 }
abbrev wR_giveValue : List Cond := Cond.code yR_giveValue bR_giveValue 3 none :: tw
theorem kVR_giveValue {R : Room} {s : State} {args : Array Value} {own : String} {idx : Nat} (h : Cond.methodLink own idx yR_giveValue ∈ tw) (hR : r0R_giveValue.frames + 1 ≤ R.frames ∧ 8 + (3 + 11) + r0R_giveValue.locals ≤ R.locals) : (∀ w ∈ tw, w.before args s = true) → CallW R s args own "TracedCode$Run" idx yR_giveValue bR_giveValue 3 none wR_giveValue r0R_giveValue 0 0 2 := tw_kV 2 wm_560 ws_R_giveValue wm_7 wm_561 rfl rfl (by decide +kernel) h hR
abbrev r0M_perform : Room := { frames := 1, cells := 0, slots := 0, locals := 22 }
abbrev wM_perform : List Cond := Cond.code yM_perform bM_perform 5 (some .int) :: tw
theorem kVM_perform {R : Room} {s : State} {args : Array Value} {own : String} {idx : Nat} (h : Cond.methodLink own idx yM_perform ∈ tw) (hR : r0M_perform.frames + 1 ≤ R.frames ∧ 8 + (5 + 11) + r0M_perform.locals ≤ R.locals) : (∀ w ∈ tw, w.before args s = true) → CallW R s args own "TracedCode$Machine" idx yM_perform bM_perform 5 (some .int) wM_perform r0M_perform 0 0 2 := tw_kV 2 wm_563 wm_564 wm_8 wm_565 rfl rfl (by decide +kernel) h hR
abbrev r0M_putOut : Room := { frames := 0, cells := 0, slots := 0, locals := 0 }
abbrev wM_putOut : List Cond := Cond.code yM_putOut bM_putOut 2 none :: tw
theorem kVM_putOut {R : Room} {s : State} {args : Array Value} {own : String} {idx : Nat} (h : Cond.methodLink own idx yM_putOut ∈ tw) (hR : r0M_putOut.frames + 1 ≤ R.frames ∧ 8 + (2 + 11) + r0M_putOut.locals ≤ R.locals) : (∀ w ∈ tw, w.before args s = true) → CallW R s args own "TracedCode$Machine" idx yM_putOut bM_putOut 2 none wM_putOut r0M_putOut 0 0 1 := tw_kV 1 wm_570 ws_M_putOut wm_8 wm_571 rfl rfl (by decide +kernel) h hR
abbrev r0T_line : Room := { frames := 8, cells := 0, slots := 0, locals := 136 }
abbrev wT_line : List Cond := Cond.code yT_line bT_line 1 (some .int) :: tw
abbrev r1T_line : Room := { frames := 8, cells := 1, slots := 6, locals := 136 }
theorem kVT_line {R : Room} {s : State} {args : Array Value} {own : String} {idx : Nat} (h : Cond.methodLink own idx yT_line ∈ tw) (hR : r0T_line.frames + 1 ≤ R.frames ∧ 8 + (1 + 11) + r0T_line.locals ≤ R.locals) : (∀ w ∈ tw, w.before args s = true) → CallW R s args own "TracedCode" idx yT_line bT_line 1 (some .int) wT_line r0T_line 0 0 0 := tw_kV 0 wm_577 wm_578 wm_1 wm_579 rfl rfl (by decide +kernel) h hR
theorem kV1T_line {R : Room} {s : State} {args : Array Value} {own : String} {idx : Nat} (h : Cond.methodLink own idx yT_line ∈ tw) (hR : r1T_line.frames + 1 ≤ R.frames ∧ 8 + (1 + 11) + r1T_line.locals ≤ R.locals) : (∀ w ∈ tw, w.before args s = true) → CallW R s args own "TracedCode" idx yT_line bT_line 1 (some .int) wT_line r1T_line 1 6 0 := tw_kV 0 wm_577 wm_578 wm_1 wm_579 rfl rfl (by decide +kernel) h hR
abbrev r0R_position : Room := { frames := 0, cells := 0, slots := 0, locals := 0 }
abbrev wR_position : List Cond := Cond.code yR_position bR_position 1 (some .int) :: tw
theorem kVR_position {R : Room} {s : State} {args : Array Value} {own : String} {idx : Nat} (h : Cond.methodLink own idx yR_position ∈ tw) (hR : r0R_position.frames + 1 ≤ R.frames ∧ 8 + (1 + 11) + r0R_position.locals ≤ R.locals) : (∀ w ∈ tw, w.before args s = true) → CallW R s args own "TracedCode$Run" idx yR_position bR_position 1 (some .int) wR_position r0R_position 0 0 0 := tw_kV 0 wm_581 wm_582 wm_7 wm_583 rfl rfl (by decide +kernel) h hR
abbrev r0T_register : Room := { frames := 8, cells := 0, slots := 0, locals := 136 }
abbrev wT_register : List Cond := Cond.code yT_register bT_register 3 (some .int) :: tw
abbrev r1T_register : Room := { frames := 8, cells := 1, slots := 6, locals := 136 }
theorem kVT_register {R : Room} {s : State} {args : Array Value} {own : String} {idx : Nat} (h : Cond.methodLink own idx yT_register ∈ tw) (hR : r0T_register.frames + 1 ≤ R.frames ∧ 8 + (3 + 11) + r0T_register.locals ≤ R.locals) : (∀ w ∈ tw, w.before args s = true) → CallW R s args own "TracedCode" idx yT_register bT_register 3 (some .int) wT_register r0T_register 0 0 2 := tw_kV 2 wm_588 wm_589 wm_1 wm_590 rfl rfl (by decide +kernel) h hR
theorem kV1T_register {R : Room} {s : State} {args : Array Value} {own : String} {idx : Nat} (h : Cond.methodLink own idx yT_register ∈ tw) (hR : r1T_register.frames + 1 ≤ R.frames ∧ 8 + (3 + 11) + r1T_register.locals ≤ R.locals) : (∀ w ∈ tw, w.before args s = true) → CallW R s args own "TracedCode" idx yT_register bT_register 3 (some .int) wT_register r1T_register 1 6 2 := tw_kV 2 wm_588 wm_589 wm_1 wm_590 rfl rfl (by decide +kernel) h hR
abbrev r0R_machine : Room := { frames := 0, cells := 0, slots := 0, locals := 0 }
abbrev wR_machine : List Cond := Cond.code yR_machine bR_machine 2 (some (.object "TracedCode$Machine")) :: tw
theorem kVR_machine {R : Room} {s : State} {args : Array Value} {own : String} {idx : Nat} (h : Cond.methodLink own idx yR_machine ∈ tw) (hR : r0R_machine.frames + 1 ≤ R.frames ∧ 8 + (2 + 11) + r0R_machine.locals ≤ R.locals) : (∀ w ∈ tw, w.before args s = true) → CallW R s args own "TracedCode$Run" idx yR_machine bR_machine 2 (some (.object "TracedCode$Machine")) wR_machine r0R_machine 0 0 1 := tw_kV 1 wm_592 wm_593 wm_7 wm_594 rfl rfl (by decide +kernel) h hR
abbrev r0T_output : Room := { frames := 8, cells := 0, slots := 0, locals := 136 }
abbrev wT_output : List Cond := Cond.code yT_output bT_output 3 (some .int) :: tw
abbrev r1T_output : Room := { frames := 8, cells := 1, slots := 6, locals := 136 }
theorem kVT_output {R : Room} {s : State} {args : Array Value} {own : String} {idx : Nat} (h : Cond.methodLink own idx yT_output ∈ tw) (hR : r0T_output.frames + 1 ≤ R.frames ∧ 8 + (3 + 11) + r0T_output.locals ≤ R.locals) : (∀ w ∈ tw, w.before args s = true) → CallW R s args own "TracedCode" idx yT_output bT_output 3 (some .int) wT_output r0T_output 0 0 2 := tw_kV 2 wm_600 wm_601 wm_1 wm_602 rfl rfl (by decide +kernel) h hR
theorem kV1T_output {R : Room} {s : State} {args : Array Value} {own : String} {idx : Nat} (h : Cond.methodLink own idx yT_output ∈ tw) (hR : r1T_output.frames + 1 ≤ R.frames ∧ 8 + (3 + 11) + r1T_output.locals ≤ R.locals) : (∀ w ∈ tw, w.before args s = true) → CallW R s args own "TracedCode" idx yT_output bT_output 3 (some .int) wT_output r1T_output 1 6 2 := tw_kV 2 wm_600 wm_601 wm_1 wm_602 rfl rfl (by decide +kernel) h hR
abbrev r0M_outputCount : Room := { frames := 0, cells := 0, slots := 0, locals := 0 }
abbrev wM_outputCount : List Cond := Cond.code yM_outputCount bM_outputCount 1 (some .int) :: tw
theorem kVM_outputCount {R : Room} {s : State} {args : Array Value} {own : String} {idx : Nat} (h : Cond.methodLink own idx yM_outputCount ∈ tw) (hR : r0M_outputCount.frames + 1 ≤ R.frames ∧ 8 + (1 + 11) + r0M_outputCount.locals ≤ R.locals) : (∀ w ∈ tw, w.before args s = true) → CallW R s args own "TracedCode$Machine" idx yM_outputCount bM_outputCount 1 (some .int) wM_outputCount r0M_outputCount 0 0 0 := tw_kV 0 wm_604 wm_605 wm_8 wm_606 rfl rfl (by decide +kernel) h hR
abbrev r0M_outputAt : Room := { frames := 0, cells := 0, slots := 0, locals := 0 }
abbrev wM_outputAt : List Cond := Cond.code yM_outputAt bM_outputAt 2 (some .int) :: tw
theorem kVM_outputAt {R : Room} {s : State} {args : Array Value} {own : String} {idx : Nat} (h : Cond.methodLink own idx yM_outputAt ∈ tw) (hR : r0M_outputAt.frames + 1 ≤ R.frames ∧ 8 + (2 + 11) + r0M_outputAt.locals ≤ R.locals) : (∀ w ∈ tw, w.before args s = true) → CallW R s args own "TracedCode$Machine" idx yM_outputAt bM_outputAt 2 (some .int) wM_outputAt r0M_outputAt 0 0 1 := tw_kV 1 wm_608 wm_609 wm_8 wm_610 rfl rfl (by decide +kernel) h hR
abbrev r0T_value : Room := { frames := 8, cells := 0, slots := 0, locals := 136 }
abbrev wT_value : List Cond := Cond.code yT_value bT_value 2 (some .int) :: tw
abbrev r1T_value : Room := { frames := 8, cells := 1, slots := 6, locals := 136 }
theorem kVT_value {R : Room} {s : State} {args : Array Value} {own : String} {idx : Nat} (h : Cond.methodLink own idx yT_value ∈ tw) (hR : r0T_value.frames + 1 ≤ R.frames ∧ 8 + (2 + 11) + r0T_value.locals ≤ R.locals) : (∀ w ∈ tw, w.before args s = true) → CallW R s args own "TracedCode" idx yT_value bT_value 2 (some .int) wT_value r0T_value 0 0 1 := tw_kV 1 wm_615 wm_616 wm_1 wm_617 rfl rfl (by decide +kernel) h hR
theorem kV1T_value {R : Room} {s : State} {args : Array Value} {own : String} {idx : Nat} (h : Cond.methodLink own idx yT_value ∈ tw) (hR : r1T_value.frames + 1 ≤ R.frames ∧ 8 + (2 + 11) + r1T_value.locals ≤ R.locals) : (∀ w ∈ tw, w.before args s = true) → CallW R s args own "TracedCode" idx yT_value bT_value 2 (some .int) wT_value r1T_value 1 6 1 := tw_kV 1 wm_615 wm_616 wm_1 wm_617 rfl rfl (by decide +kernel) h hR
abbrev r0R_hasValue : Room := { frames := 0, cells := 0, slots := 0, locals := 0 }
abbrev wR_hasValue : List Cond := Cond.code yR_hasValue bR_hasValue 2 (some .boolean) :: tw
theorem kVR_hasValue {R : Room} {s : State} {args : Array Value} {own : String} {idx : Nat} (h : Cond.methodLink own idx yR_hasValue ∈ tw) (hR : r0R_hasValue.frames + 1 ≤ R.frames ∧ 8 + (2 + 11) + r0R_hasValue.locals ≤ R.locals) : (∀ w ∈ tw, w.before args s = true) → CallW R s args own "TracedCode$Run" idx yR_hasValue bR_hasValue 2 (some .boolean) wR_hasValue r0R_hasValue 0 0 1 := tw_kV 1 wm_619 wm_620 wm_7 wm_621 rfl rfl (by decide +kernel) h hR
abbrev r0R_valueOf : Room := { frames := 0, cells := 0, slots := 0, locals := 0 }
abbrev wR_valueOf : List Cond := Cond.code yR_valueOf bR_valueOf 2 (some .int) :: tw
theorem kVR_valueOf {R : Room} {s : State} {args : Array Value} {own : String} {idx : Nat} (h : Cond.methodLink own idx yR_valueOf ∈ tw) (hR : r0R_valueOf.frames + 1 ≤ R.frames ∧ 8 + (2 + 11) + r0R_valueOf.locals ≤ R.locals) : (∀ w ∈ tw, w.before args s = true) → CallW R s args own "TracedCode$Run" idx yR_valueOf bR_valueOf 2 (some .int) wR_valueOf r0R_valueOf 0 0 1 := tw_kV 1 wm_623 wm_624 wm_7 wm_625 rfl rfl (by decide +kernel) h hR
abbrev r0T_read : Room := { frames := 8, cells := 0, slots := 0, locals := 136 }
abbrev wT_read : List Cond := Cond.code yT_read bT_read 3 (some .int) :: tw
abbrev r1T_read : Room := { frames := 8, cells := 1, slots := 6, locals := 136 }
theorem kVT_read {R : Room} {s : State} {args : Array Value} {own : String} {idx : Nat} (h : Cond.methodLink own idx yT_read ∈ tw) (hR : r0T_read.frames + 1 ≤ R.frames ∧ 8 + (3 + 11) + r0T_read.locals ≤ R.locals) : (∀ w ∈ tw, w.before args s = true) → CallW R s args own "TracedCode" idx yT_read bT_read 3 (some .int) wT_read r0T_read 0 0 1 := tw_kV 1 wm_631 wm_632 wm_1 wm_633 rfl rfl (by decide +kernel) h hR
theorem kV1T_read {R : Room} {s : State} {args : Array Value} {own : String} {idx : Nat} (h : Cond.methodLink own idx yT_read ∈ tw) (hR : r1T_read.frames + 1 ≤ R.frames ∧ 8 + (3 + 11) + r1T_read.locals ≤ R.locals) : (∀ w ∈ tw, w.before args s = true) → CallW R s args own "TracedCode" idx yT_read bT_read 3 (some .int) wT_read r1T_read 1 6 1 := tw_kV 1 wm_631 wm_632 wm_1 wm_633 rfl rfl (by decide +kernel) h hR
abbrev r0T_requireFound : Room := { frames := 6, cells := 0, slots := 0, locals := 96 }
abbrev wT_requireFound : List Cond := Cond.code yT_requireFound bT_requireFound 1 none :: tw
abbrev r1T_requireFound : Room := { frames := 6, cells := 1, slots := 6, locals := 96 }
theorem kST_requireFound {R : Room} {s : State} {args : Array Value} {own : String} {idx : Nat} (h : Cond.methodLink own idx yT_requireFound ∈ tw) (hR : r0T_requireFound.frames + 1 ≤ R.frames ∧ 8 + (1 + 11) + r0T_requireFound.locals ≤ R.locals) : (∀ w ∈ tw, w.before args s = true) → (CallB R s args own idx yT_requireFound bT_requireFound 1 none wT_requireFound r0T_requireFound 0 0 1 ∧ (Cond.static yT_requireFound).before args s = true) := tw_kS 1 wm_635 wm_1 wm_636 rfl rfl (by decide +kernel) h hR
theorem kS1T_requireFound {R : Room} {s : State} {args : Array Value} {own : String} {idx : Nat} (h : Cond.methodLink own idx yT_requireFound ∈ tw) (hR : r1T_requireFound.frames + 1 ≤ R.frames ∧ 8 + (1 + 11) + r1T_requireFound.locals ≤ R.locals) : (∀ w ∈ tw, w.before args s = true) → (CallB R s args own idx yT_requireFound bT_requireFound 1 none wT_requireFound r1T_requireFound 1 6 1 ∧ (Cond.static yT_requireFound).before args s = true) := tw_kS 1 wm_635 wm_1 wm_636 rfl rfl (by decide +kernel) h hR
abbrev r0K_constantOfVariable : Room := { frames := 0, cells := 0, slots := 0, locals := 0 }
abbrev wK_constantOfVariable : List Cond := Cond.code yK_constantOfVariable bK_constantOfVariable 3 (some .int) :: tw
theorem kVK_constantOfVariable {R : Room} {s : State} {args : Array Value} {own : String} {idx : Nat} (h : Cond.methodLink own idx yK_constantOfVariable ∈ tw) (hR : r0K_constantOfVariable.frames + 1 ≤ R.frames ∧ 8 + (3 + 11) + r0K_constantOfVariable.locals ≤ R.locals) : (∀ w ∈ tw, w.before args s = true) → CallW R s args own "TracedCode$Carriers" idx yK_constantOfVariable bK_constantOfVariable 3 (some .int) wK_constantOfVariable r0K_constantOfVariable 0 0 2 := tw_kV 2 wm_653 wm_654 wm_6 wm_655 rfl rfl (by decide +kernel) h hR
abbrev r0D_init : Room := { frames := 1, cells := 0, slots := 0, locals := 24 }
abbrev wD_init : List Cond := Cond.code yD_init bD_init 1 none :: tw
abbrev r0D_thrown : Room := { frames := 0, cells := 0, slots := 0, locals := 0 }
abbrev wD_thrown : List Cond := Cond.code yD_thrown bD_thrown 1 (some .int) :: tw
theorem kVD_thrown {R : Room} {s : State} {args : Array Value} {own : String} {idx : Nat} (h : Cond.methodLink own idx yD_thrown ∈ tw) (hR : r0D_thrown.frames + 1 ≤ R.frames ∧ 8 + (1 + 11) + r0D_thrown.locals ≤ R.locals) : (∀ w ∈ tw, w.before args s = true) → CallW R s args own "TracedCodeModel" idx yD_thrown bD_thrown 1 (some .int) wD_thrown r0D_thrown 0 0 0 := tw_kV 0 wm_745 wm_746 wm_9 wm_747 rfl rfl (by decide +kernel) h hR
abbrev r0D_set : Room := { frames := 1, cells := 0, slots := 0, locals := 24 }
abbrev wD_set : List Cond := Cond.code yD_set bD_set 3 (some .int) :: tw
theorem kVD_set {R : Room} {s : State} {args : Array Value} {own : String} {idx : Nat} (h : Cond.methodLink own idx yD_set ∈ tw) (hR : r0D_set.frames + 1 ≤ R.frames ∧ 8 + (3 + 11) + r0D_set.locals ≤ R.locals) : (∀ w ∈ tw, w.before args s = true) → CallW R s args own "TracedCodeModel" idx yD_set bD_set 3 (some .int) wD_set r0D_set 0 0 2 := tw_kV 2 wm_749 wm_750 wm_9 wm_751 rfl rfl (by decide +kernel) h hR
abbrev r0D_noRegister : Room := { frames := 0, cells := 0, slots := 0, locals := 0 }
abbrev wD_noRegister : List Cond := Cond.code yD_noRegister bD_noRegister 1 (some .boolean) :: tw
theorem kSD_noRegister {R : Room} {s : State} {args : Array Value} {own : String} {idx : Nat} (h : Cond.methodLink own idx yD_noRegister ∈ tw) (hR : r0D_noRegister.frames + 1 ≤ R.frames ∧ 8 + (1 + 11) + r0D_noRegister.locals ≤ R.locals) : (∀ w ∈ tw, w.before args s = true) → (CallB R s args own idx yD_noRegister bD_noRegister 1 (some .boolean) wD_noRegister r0D_noRegister 0 0 1 ∧ (Cond.static yD_noRegister).before args s = true) := tw_kS 1 wm_753 wm_9 wm_754 rfl rfl (by decide +kernel) h hR
abbrev r0D_newLine : Room := { frames := 0, cells := 0, slots := 0, locals := 0 }
abbrev wD_newLine : List Cond := Cond.code yD_newLine bD_newLine 5 (some .int) :: tw
theorem kVD_newLine {R : Room} {s : State} {args : Array Value} {own : String} {idx : Nat} (h : Cond.methodLink own idx yD_newLine ∈ tw) (hR : r0D_newLine.frames + 1 ≤ R.frames ∧ 8 + (5 + 11) + r0D_newLine.locals ≤ R.locals) : (∀ w ∈ tw, w.before args s = true) → CallW R s args own "TracedCodeModel" idx yD_newLine bD_newLine 5 (some .int) wD_newLine r0D_newLine 0 0 4 := tw_kV 4 wm_757 ws_D_newLine wm_9 wm_758 rfl rfl (by decide +kernel) h hR
abbrev r0D_copy : Room := { frames := 1, cells := 0, slots := 0, locals := 24 }
abbrev wD_copy : List Cond := Cond.code yD_copy bD_copy 3 (some .int) :: tw
theorem kVD_copy {R : Room} {s : State} {args : Array Value} {own : String} {idx : Nat} (h : Cond.methodLink own idx yD_copy ∈ tw) (hR : r0D_copy.frames + 1 ≤ R.frames ∧ 8 + (3 + 11) + r0D_copy.locals ≤ R.locals) : (∀ w ∈ tw, w.before args s = true) → CallW R s args own "TracedCodeModel" idx yD_copy bD_copy 3 (some .int) wD_copy r0D_copy 0 0 2 := tw_kV 2 wm_760 wm_761 wm_9 wm_762 rfl rfl (by decide +kernel) h hR
abbrev r0D_add : Room := { frames := 1, cells := 0, slots := 0, locals := 24 }
abbrev wD_add : List Cond := Cond.code yD_add bD_add 4 (some .int) :: tw
theorem kVD_add {R : Room} {s : State} {args : Array Value} {own : String} {idx : Nat} (h : Cond.methodLink own idx yD_add ∈ tw) (hR : r0D_add.frames + 1 ≤ R.frames ∧ 8 + (4 + 11) + r0D_add.locals ≤ R.locals) : (∀ w ∈ tw, w.before args s = true) → CallW R s args own "TracedCodeModel" idx yD_add bD_add 4 (some .int) wD_add r0D_add 0 0 3 := tw_kV 3 wm_764 wm_765 wm_9 wm_766 rfl rfl (by decide +kernel) h hR
abbrev r0D_out : Room := { frames := 1, cells := 0, slots := 0, locals := 24 }
abbrev wD_out : List Cond := Cond.code yD_out bD_out 2 (some .int) :: tw
theorem kVD_out {R : Room} {s : State} {args : Array Value} {own : String} {idx : Nat} (h : Cond.methodLink own idx yD_out ∈ tw) (hR : r0D_out.frames + 1 ≤ R.frames ∧ 8 + (2 + 11) + r0D_out.locals ≤ R.locals) : (∀ w ∈ tw, w.before args s = true) → CallW R s args own "TracedCodeModel" idx yD_out bD_out 2 (some .int) wD_out r0D_out 0 0 1 := tw_kV 1 wm_768 wm_769 wm_9 wm_770 rfl rfl (by decide +kernel) h hR
abbrev r0D_jump : Room := { frames := 1, cells := 0, slots := 0, locals := 24 }
abbrev wD_jump : List Cond := Cond.code yD_jump bD_jump 3 (some .int) :: tw
theorem kVD_jump {R : Room} {s : State} {args : Array Value} {own : String} {idx : Nat} (h : Cond.methodLink own idx yD_jump ∈ tw) (hR : r0D_jump.frames + 1 ≤ R.frames ∧ 8 + (3 + 11) + r0D_jump.locals ≤ R.locals) : (∀ w ∈ tw, w.before args s = true) → CallW R s args own "TracedCodeModel" idx yD_jump bD_jump 3 (some .int) wD_jump r0D_jump 0 0 2 := tw_kV 2 wm_772 wm_773 wm_9 wm_774 rfl rfl (by decide +kernel) h hR
abbrev r0D_name : Room := { frames := 1, cells := 0, slots := 0, locals := 24 }
abbrev wD_name : List Cond := Cond.code yD_name bD_name 3 (some .int) :: tw
theorem kVD_name {R : Room} {s : State} {args : Array Value} {own : String} {idx : Nat} (h : Cond.methodLink own idx yD_name ∈ tw) (hR : r0D_name.frames + 1 ≤ R.frames ∧ 8 + (3 + 11) + r0D_name.locals ≤ R.locals) : (∀ w ∈ tw, w.before args s = true) → CallW R s args own "TracedCodeModel" idx yD_name bD_name 3 (some .int) wD_name r0D_name 0 0 2 := tw_kV 2 wm_776 wm_777 wm_9 wm_778 rfl rfl (by decide +kernel) h hR
abbrev r0D_clear : Room := { frames := 0, cells := 0, slots := 0, locals := 0 }
abbrev wD_clear : List Cond := Cond.code yD_clear bD_clear 1 none :: tw
theorem kVD_clear {R : Room} {s : State} {args : Array Value} {own : String} {idx : Nat} (h : Cond.methodLink own idx yD_clear ∈ tw) (hR : r0D_clear.frames + 1 ≤ R.frames ∧ 8 + (1 + 11) + r0D_clear.locals ≤ R.locals) : (∀ w ∈ tw, w.before args s = true) → CallW R s args own "TracedCodeModel" idx yD_clear bD_clear 1 none wD_clear r0D_clear 0 0 0 := tw_kV 0 wm_780 wm_781 wm_9 wm_782 rfl rfl (by decide +kernel) h hR
abbrev r0D_shorten : Room := { frames := 3, cells := 0, slots := 0, locals := 72 }
abbrev wD_shorten : List Cond := Cond.code yD_shorten bD_shorten 5 (some .int) :: tw
theorem kVD_shorten {R : Room} {s : State} {args : Array Value} {own : String} {idx : Nat} (h : Cond.methodLink own idx yD_shorten ∈ tw) (hR : r0D_shorten.frames + 1 ≤ R.frames ∧ 8 + (5 + 11) + r0D_shorten.locals ≤ R.locals) : (∀ w ∈ tw, w.before args s = true) → CallW R s args own "TracedCodeModel" idx yD_shorten bD_shorten 5 (some .int) wD_shorten r0D_shorten 0 0 0 := tw_kV 0 wm_784 wm_785 wm_9 wm_786 rfl rfl (by decide +kernel) h hR
abbrev r0D_reach : Room := { frames := 1, cells := 0, slots := 0, locals := 21 }
abbrev wD_reach : List Cond := Cond.code yD_reach bD_reach 2 none :: tw
theorem kVD_reach {R : Room} {s : State} {args : Array Value} {own : String} {idx : Nat} (h : Cond.methodLink own idx yD_reach ∈ tw) (hR : r0D_reach.frames + 1 ≤ R.frames ∧ 8 + (2 + 11) + r0D_reach.locals ≤ R.locals) : (∀ w ∈ tw, w.before args s = true) → CallW R s args own "TracedCodeModel" idx yD_reach bD_reach 2 none wD_reach r0D_reach 0 0 0 := tw_kV 0 wm_789 ws_D_reach wm_9 wm_790 rfl rfl (by decide +kernel) h hR
abbrev r0D_forget : Room := { frames := 0, cells := 0, slots := 0, locals := 0 }
abbrev wD_forget : List Cond := Cond.code yD_forget bD_forget 2 none :: tw
theorem kVD_forget {R : Room} {s : State} {args : Array Value} {own : String} {idx : Nat} (h : Cond.methodLink own idx yD_forget ∈ tw) (hR : r0D_forget.frames + 1 ≤ R.frames ∧ 8 + (2 + 11) + r0D_forget.locals ≤ R.locals) : (∀ w ∈ tw, w.before args s = true) → CallW R s args own "TracedCodeModel" idx yD_forget bD_forget 2 none wD_forget r0D_forget 0 0 0 := tw_kV 0 wm_793 ws_D_forget wm_9 wm_794 rfl rfl (by decide +kernel) h hR
abbrev r0D_meet : Room := { frames := 0, cells := 0, slots := 0, locals := 0 }
abbrev wD_meet : List Cond := Cond.code yD_meet bD_meet 2 none :: tw
theorem kVD_meet {R : Room} {s : State} {args : Array Value} {own : String} {idx : Nat} (h : Cond.methodLink own idx yD_meet ∈ tw) (hR : r0D_meet.frames + 1 ≤ R.frames ∧ 8 + (2 + 11) + r0D_meet.locals ≤ R.locals) : (∀ w ∈ tw, w.before args s = true) → CallW R s args own "TracedCodeModel" idx yD_meet bD_meet 2 none wD_meet r0D_meet 0 0 1 := tw_kV 1 wm_797 ws_D_meet wm_9 wm_798 rfl rfl (by decide +kernel) h hR
abbrev r0D_targetOf : Room := { frames := 0, cells := 0, slots := 0, locals := 0 }
abbrev wD_targetOf : List Cond := Cond.code yD_targetOf bD_targetOf 2 (some .int) :: tw
theorem kVD_targetOf {R : Room} {s : State} {args : Array Value} {own : String} {idx : Nat} (h : Cond.methodLink own idx yD_targetOf ∈ tw) (hR : r0D_targetOf.frames + 1 ≤ R.frames ∧ 8 + (2 + 11) + r0D_targetOf.locals ≤ R.locals) : (∀ w ∈ tw, w.before args s = true) → CallW R s args own "TracedCodeModel" idx yD_targetOf bD_targetOf 2 (some .int) wD_targetOf r0D_targetOf 0 0 1 := tw_kV 1 wm_801 ws_D_targetOf wm_9 wm_802 rfl rfl (by decide +kernel) h hR
abbrev r0D_passOn : Room := { frames := 2, cells := 0, slots := 0, locals := 49 }
abbrev wD_passOn : List Cond := Cond.code yD_passOn bD_passOn 4 (some .boolean) :: tw
theorem kVD_passOn {R : Room} {s : State} {args : Array Value} {own : String} {idx : Nat} (h : Cond.methodLink own idx yD_passOn ∈ tw) (hR : r0D_passOn.frames + 1 ≤ R.frames ∧ 8 + (4 + 11) + r0D_passOn.locals ≤ R.locals) : (∀ w ∈ tw, w.before args s = true) → CallW R s args own "TracedCodeModel" idx yD_passOn bD_passOn 4 (some .boolean) wD_passOn r0D_passOn 0 0 0 := tw_kV 0 wm_805 ws_D_passOn wm_9 wm_806 rfl rfl (by decide +kernel) h hR
abbrev r0D_follow : Room := { frames := 1, cells := 0, slots := 0, locals := 22 }
abbrev wD_follow : List Cond := Cond.code yD_follow bD_follow 8 none :: tw
theorem kVD_follow {R : Room} {s : State} {args : Array Value} {own : String} {idx : Nat} (h : Cond.methodLink own idx yD_follow ∈ tw) (hR : r0D_follow.frames + 1 ≤ R.frames ∧ 8 + (8 + 11) + r0D_follow.locals ≤ R.locals) : (∀ w ∈ tw, w.before args s = true) → CallW R s args own "TracedCodeModel" idx yD_follow bD_follow 8 none wD_follow r0D_follow 0 0 2 := tw_kV 2 wm_809 ws_D_follow wm_9 wm_810 rfl rfl (by decide +kernel) h hR
abbrev r0D_writes : Room := { frames := 0, cells := 0, slots := 0, locals := 0 }
abbrev wD_writes : List Cond := Cond.code yD_writes bD_writes 3 (some .boolean) :: tw
theorem kVD_writes {R : Room} {s : State} {args : Array Value} {own : String} {idx : Nat} (h : Cond.methodLink own idx yD_writes ∈ tw) (hR : r0D_writes.frames + 1 ≤ R.frames ∧ 8 + (3 + 11) + r0D_writes.locals ≤ R.locals) : (∀ w ∈ tw, w.before args s = true) → CallW R s args own "TracedCodeModel" idx yD_writes bD_writes 3 (some .boolean) wD_writes r0D_writes 0 0 2 := tw_kV 2 wm_813 ws_D_writes wm_9 wm_814 rfl rfl (by decide +kernel) h hR
abbrev r0D_replace : Room := { frames := 0, cells := 0, slots := 0, locals := 0 }
abbrev wD_replace : List Cond := Cond.code yD_replace bD_replace 5 none :: tw
theorem kVD_replace {R : Room} {s : State} {args : Array Value} {own : String} {idx : Nat} (h : Cond.methodLink own idx yD_replace ∈ tw) (hR : r0D_replace.frames + 1 ≤ R.frames ∧ 8 + (5 + 11) + r0D_replace.locals ≤ R.locals) : (∀ w ∈ tw, w.before args s = true) → CallW R s args own "TracedCodeModel" idx yD_replace bD_replace 5 none wD_replace r0D_replace 0 0 3 := tw_kV 3 wm_817 ws_D_replace wm_9 wm_818 rfl rfl (by decide +kernel) h hR
abbrev r0D_empty : Room := { frames := 0, cells := 0, slots := 0, locals := 0 }
abbrev wD_empty : List Cond := Cond.code yD_empty bD_empty 2 none :: tw
theorem kVD_empty {R : Room} {s : State} {args : Array Value} {own : String} {idx : Nat} (h : Cond.methodLink own idx yD_empty ∈ tw) (hR : r0D_empty.frames + 1 ≤ R.frames ∧ 8 + (2 + 11) + r0D_empty.locals ≤ R.locals) : (∀ w ∈ tw, w.before args s = true) → CallW R s args own "TracedCodeModel" idx yD_empty bD_empty 2 none wD_empty r0D_empty 0 0 1 := tw_kV 1 wm_821 ws_D_empty wm_9 wm_822 rfl rfl (by decide +kernel) h hR
abbrev r0D_leaveOut : Room := { frames := 2, cells := 0, slots := 0, locals := 46 }
abbrev wD_leaveOut : List Cond := Cond.code yD_leaveOut bD_leaveOut 3 (some .boolean) :: tw
theorem kVD_leaveOut {R : Room} {s : State} {args : Array Value} {own : String} {idx : Nat} (h : Cond.methodLink own idx yD_leaveOut ∈ tw) (hR : r0D_leaveOut.frames + 1 ≤ R.frames ∧ 8 + (3 + 11) + r0D_leaveOut.locals ≤ R.locals) : (∀ w ∈ tw, w.before args s = true) → CallW R s args own "TracedCodeModel" idx yD_leaveOut bD_leaveOut 3 (some .boolean) wD_leaveOut r0D_leaveOut 0 0 0 := tw_kV 0 wm_825 ws_D_leaveOut wm_9 wm_826 rfl rfl (by decide +kernel) h hR
abbrev r0D_isLive : Room := { frames := 1, cells := 0, slots := 0, locals := 23 }
abbrev wD_isLive : List Cond := Cond.code yD_isLive bD_isLive 4 (some .boolean) :: tw
theorem kVD_isLive {R : Room} {s : State} {args : Array Value} {own : String} {idx : Nat} (h : Cond.methodLink own idx yD_isLive ∈ tw) (hR : r0D_isLive.frames + 1 ≤ R.frames ∧ 8 + (4 + 11) + r0D_isLive.locals ≤ R.locals) : (∀ w ∈ tw, w.before args s = true) → CallW R s args own "TracedCodeModel" idx yD_isLive bD_isLive 4 (some .boolean) wD_isLive r0D_isLive 0 0 2 := tw_kV 2 wm_829 ws_D_isLive wm_9 wm_830 rfl rfl (by decide +kernel) h hR
abbrev r0D_uses : Room := { frames := 0, cells := 0, slots := 0, locals := 0 }
abbrev wD_uses : List Cond := Cond.code yD_uses bD_uses 4 (some .boolean) :: tw
theorem kVD_uses {R : Room} {s : State} {args : Array Value} {own : String} {idx : Nat} (h : Cond.methodLink own idx yD_uses ∈ tw) (hR : r0D_uses.frames + 1 ≤ R.frames ∧ 8 + (4 + 11) + r0D_uses.locals ≤ R.locals) : (∀ w ∈ tw, w.before args s = true) → CallW R s args own "TracedCodeModel" idx yD_uses bD_uses 4 (some .boolean) wD_uses r0D_uses 0 0 2 := tw_kV 2 wm_833 ws_D_uses wm_9 wm_834 rfl rfl (by decide +kernel) h hR
abbrev r0D_findCarriers : Room := { frames := 1, cells := 0, slots := 0, locals := 26 }
abbrev wD_findCarriers : List Cond := Cond.code yD_findCarriers bD_findCarriers 5 none :: tw
theorem kVD_findCarriers {R : Room} {s : State} {args : Array Value} {own : String} {idx : Nat} (h : Cond.methodLink own idx yD_findCarriers ∈ tw) (hR : r0D_findCarriers.frames + 1 ≤ R.frames ∧ 8 + (5 + 11) + r0D_findCarriers.locals ≤ R.locals) : (∀ w ∈ tw, w.before args s = true) → CallW R s args own "TracedCodeModel" idx yD_findCarriers bD_findCarriers 5 none wD_findCarriers r0D_findCarriers 0 0 0 := tw_kV 0 wm_837 ws_D_findCarriers wm_9 wm_838 rfl rfl (by decide +kernel) h hR
abbrev r0D_pass : Room := { frames := 0, cells := 0, slots := 0, locals := 0 }
abbrev wD_pass : List Cond := Cond.code yD_pass bD_pass 7 none :: tw
theorem kVD_pass {R : Room} {s : State} {args : Array Value} {own : String} {idx : Nat} (h : Cond.methodLink own idx yD_pass ∈ tw) (hR : r0D_pass.frames + 1 ≤ R.frames ∧ 8 + (7 + 11) + r0D_pass.locals ≤ R.locals) : (∀ w ∈ tw, w.before args s = true) → CallW R s args own "TracedCodeModel" idx yD_pass bD_pass 7 none wD_pass r0D_pass 0 0 1 := tw_kV 1 wm_843 ws_D_pass wm_9 wm_844 rfl rfl (by decide +kernel) h hR
abbrev r0D_spread : Room := { frames := 0, cells := 0, slots := 0, locals := 0 }
abbrev wD_spread : List Cond := Cond.code yD_spread bD_spread 6 (some .boolean) :: tw
theorem kVD_spread {R : Room} {s : State} {args : Array Value} {own : String} {idx : Nat} (h : Cond.methodLink own idx yD_spread ∈ tw) (hR : r0D_spread.frames + 1 ≤ R.frames ∧ 8 + (6 + 11) + r0D_spread.locals ≤ R.locals) : (∀ w ∈ tw, w.before args s = true) → CallW R s args own "TracedCodeModel" idx yD_spread bD_spread 6 (some .boolean) wD_spread r0D_spread 0 0 1 := tw_kV 1 wm_847 ws_D_spread wm_9 wm_848 rfl rfl (by decide +kernel) h hR
abbrev r0D_begin : Room := { frames := 0, cells := 0, slots := 0, locals := 0 }
abbrev wD_begin : List Cond := Cond.code yD_begin bD_begin 2 none :: tw
theorem kVD_begin {R : Room} {s : State} {args : Array Value} {own : String} {idx : Nat} (h : Cond.methodLink own idx yD_begin ∈ tw) (hR : r0D_begin.frames + 1 ≤ R.frames ∧ 8 + (2 + 11) + r0D_begin.locals ≤ R.locals) : (∀ w ∈ tw, w.before args s = true) → CallW R s args own "TracedCodeModel" idx yD_begin bD_begin 2 none wD_begin r0D_begin 0 0 0 := tw_kV 0 wm_851 ws_D_begin wm_9 wm_852 rfl rfl (by decide +kernel) h hR
abbrev r0D_kept : Room := { frames := 0, cells := 0, slots := 0, locals := 0 }
abbrev wD_kept : List Cond := Cond.code yD_kept bD_kept 3 (some .int) :: tw
theorem kVD_kept {R : Room} {s : State} {args : Array Value} {own : String} {idx : Nat} (h : Cond.methodLink own idx yD_kept ∈ tw) (hR : r0D_kept.frames + 1 ≤ R.frames ∧ 8 + (3 + 11) + r0D_kept.locals ≤ R.locals) : (∀ w ∈ tw, w.before args s = true) → CallW R s args own "TracedCodeModel" idx yD_kept bD_kept 3 (some .int) wD_kept r0D_kept 0 0 0 := tw_kV 0 wm_854 wm_855 wm_9 wm_856 rfl rfl (by decide +kernel) h hR
abbrev r0D_part : Room := { frames := 0, cells := 0, slots := 0, locals := 0 }
abbrev wD_part : List Cond := Cond.code yD_part bD_part 4 (some .int) :: tw
theorem kVD_part {R : Room} {s : State} {args : Array Value} {own : String} {idx : Nat} (h : Cond.methodLink own idx yD_part ∈ tw) (hR : r0D_part.frames + 1 ≤ R.frames ∧ 8 + (4 + 11) + r0D_part.locals ≤ R.locals) : (∀ w ∈ tw, w.before args s = true) → CallW R s args own "TracedCodeModel" idx yD_part bD_part 4 (some .int) wD_part r0D_part 0 0 2 := tw_kV 2 wm_858 wm_859 wm_9 wm_860 rfl rfl (by decide +kernel) h hR
abbrev r0D_where : Room := { frames := 2, cells := 0, slots := 0, locals := 48 }
abbrev wD_where : List Cond := Cond.code yD_where bD_where 3 (some .int) :: tw
theorem kVD_where {R : Room} {s : State} {args : Array Value} {own : String} {idx : Nat} (h : Cond.methodLink own idx yD_where ∈ tw) (hR : r0D_where.frames + 1 ≤ R.frames ∧ 8 + (3 + 11) + r0D_where.locals ≤ R.locals) : (∀ w ∈ tw, w.before args s = true) → CallW R s args own "TracedCodeModel" idx yD_where bD_where 3 (some .int) wD_where r0D_where 0 0 2 := tw_kV 2 wm_862 wm_863 wm_9 wm_864 rfl rfl (by decide +kernel) h hR
abbrev r0D_placeOf : Room := { frames := 1, cells := 0, slots := 0, locals := 24 }
abbrev wD_placeOf : List Cond := Cond.code yD_placeOf bD_placeOf 5 (some .int) :: tw
theorem kVD_placeOf {R : Room} {s : State} {args : Array Value} {own : String} {idx : Nat} (h : Cond.methodLink own idx yD_placeOf ∈ tw) (hR : r0D_placeOf.frames + 1 ≤ R.frames ∧ 8 + (5 + 11) + r0D_placeOf.locals ≤ R.locals) : (∀ w ∈ tw, w.before args s = true) → CallW R s args own "TracedCodeModel" idx yD_placeOf bD_placeOf 5 (some .int) wD_placeOf r0D_placeOf 0 0 2 := tw_kV 2 wm_867 ws_D_placeOf wm_9 wm_868 rfl rfl (by decide +kernel) h hR
abbrev r0D_isConstant : Room := { frames := 0, cells := 0, slots := 0, locals := 0 }
abbrev wD_isConstant : List Cond := Cond.code yD_isConstant bD_isConstant 5 (some .boolean) :: tw
theorem kVD_isConstant {R : Room} {s : State} {args : Array Value} {own : String} {idx : Nat} (h : Cond.methodLink own idx yD_isConstant ∈ tw) (hR : r0D_isConstant.frames + 1 ≤ R.frames ∧ 8 + (5 + 11) + r0D_isConstant.locals ≤ R.locals) : (∀ w ∈ tw, w.before args s = true) → CallW R s args own "TracedCodeModel" idx yD_isConstant bD_isConstant 5 (some .boolean) wD_isConstant r0D_isConstant 0 0 1 := tw_kV 1 wm_871 ws_D_isConstant wm_9 wm_872 rfl rfl (by decide +kernel) h hR
abbrev r0D_carriers : Room := { frames := 1, cells := 0, slots := 0, locals := 20 }
abbrev wD_carriers : List Cond := Cond.code yD_carriers bD_carriers 3 (some .int) :: tw
theorem kVD_carriers {R : Room} {s : State} {args : Array Value} {own : String} {idx : Nat} (h : Cond.methodLink own idx yD_carriers ∈ tw) (hR : r0D_carriers.frames + 1 ≤ R.frames ∧ 8 + (3 + 11) + r0D_carriers.locals ≤ R.locals) : (∀ w ∈ tw, w.before args s = true) → CallW R s args own "TracedCodeModel" idx yD_carriers bD_carriers 3 (some .int) wD_carriers r0D_carriers 0 0 2 := tw_kV 2 wm_874 wm_875 wm_9 wm_876 rfl rfl (by decide +kernel) h hR
abbrev r0D_restart : Room := { frames := 1, cells := 0, slots := 0, locals := 21 }
abbrev wD_restart : List Cond := Cond.code yD_restart bD_restart 1 none :: tw
theorem kVD_restart {R : Room} {s : State} {args : Array Value} {own : String} {idx : Nat} (h : Cond.methodLink own idx yD_restart ∈ tw) (hR : r0D_restart.frames + 1 ≤ R.frames ∧ 8 + (1 + 11) + r0D_restart.locals ≤ R.locals) : (∀ w ∈ tw, w.before args s = true) → CallW R s args own "TracedCodeModel" idx yD_restart bD_restart 1 none wD_restart r0D_restart 0 0 0 := tw_kV 0 wm_878 wm_879 wm_9 wm_880 rfl rfl (by decide +kernel) h hR
abbrev r0D_step : Room := { frames := 1, cells := 0, slots := 0, locals := 23 }
abbrev wD_step : List Cond := Cond.code yD_step bD_step 4 (some .int) :: tw
theorem kVD_step {R : Room} {s : State} {args : Array Value} {own : String} {idx : Nat} (h : Cond.methodLink own idx yD_step ∈ tw) (hR : r0D_step.frames + 1 ≤ R.frames ∧ 8 + (4 + 11) + r0D_step.locals ≤ R.locals) : (∀ w ∈ tw, w.before args s = true) → CallW R s args own "TracedCodeModel" idx yD_step bD_step 4 (some .int) wD_step r0D_step 0 0 0 := tw_kV 0 wm_882 wm_883 wm_9 wm_884 rfl rfl (by decide +kernel) h hR
abbrev r0D_does : Room := { frames := 0, cells := 0, slots := 0, locals := 0 }
abbrev wD_does : List Cond := Cond.code yD_does bD_does 4 (some .boolean) :: tw
theorem kVD_does {R : Room} {s : State} {args : Array Value} {own : String} {idx : Nat} (h : Cond.methodLink own idx yD_does ∈ tw) (hR : r0D_does.frames + 1 ≤ R.frames ∧ 8 + (4 + 11) + r0D_does.locals ≤ R.locals) : (∀ w ∈ tw, w.before args s = true) → CallW R s args own "TracedCodeModel" idx yD_does bD_does 4 (some .boolean) wD_does r0D_does 0 0 2 := tw_kV 2 wm_887 ws_D_does wm_9 wm_888 rfl rfl (by decide +kernel) h hR
abbrev r0D_line : Room := { frames := 0, cells := 0, slots := 0, locals := 0 }
abbrev wD_line : List Cond := Cond.code yD_line bD_line 1 (some .int) :: tw
theorem kVD_line {R : Room} {s : State} {args : Array Value} {own : String} {idx : Nat} (h : Cond.methodLink own idx yD_line ∈ tw) (hR : r0D_line.frames + 1 ≤ R.frames ∧ 8 + (1 + 11) + r0D_line.locals ≤ R.locals) : (∀ w ∈ tw, w.before args s = true) → CallW R s args own "TracedCodeModel" idx yD_line bD_line 1 (some .int) wD_line r0D_line 0 0 0 := tw_kV 0 wm_890 wm_891 wm_9 wm_892 rfl rfl (by decide +kernel) h hR
abbrev r0D_register : Room := { frames := 1, cells := 0, slots := 0, locals := 20 }
abbrev wD_register : List Cond := Cond.code yD_register bD_register 3 (some .int) :: tw
theorem kVD_register {R : Room} {s : State} {args : Array Value} {own : String} {idx : Nat} (h : Cond.methodLink own idx yD_register ∈ tw) (hR : r0D_register.frames + 1 ≤ R.frames ∧ 8 + (3 + 11) + r0D_register.locals ≤ R.locals) : (∀ w ∈ tw, w.before args s = true) → CallW R s args own "TracedCodeModel" idx yD_register bD_register 3 (some .int) wD_register r0D_register 0 0 2 := tw_kV 2 wm_894 wm_895 wm_9 wm_896 rfl rfl (by decide +kernel) h hR
abbrev r0D_output : Room := { frames := 0, cells := 0, slots := 0, locals := 0 }
abbrev wD_output : List Cond := Cond.code yD_output bD_output 3 (some .int) :: tw
theorem kVD_output {R : Room} {s : State} {args : Array Value} {own : String} {idx : Nat} (h : Cond.methodLink own idx yD_output ∈ tw) (hR : r0D_output.frames + 1 ≤ R.frames ∧ 8 + (3 + 11) + r0D_output.locals ≤ R.locals) : (∀ w ∈ tw, w.before args s = true) → CallW R s args own "TracedCodeModel" idx yD_output bD_output 3 (some .int) wD_output r0D_output 0 0 2 := tw_kV 2 wm_898 wm_899 wm_9 wm_900 rfl rfl (by decide +kernel) h hR
abbrev r0D_value : Room := { frames := 0, cells := 0, slots := 0, locals := 0 }
abbrev wD_value : List Cond := Cond.code yD_value bD_value 2 (some .int) :: tw
theorem kVD_value {R : Room} {s : State} {args : Array Value} {own : String} {idx : Nat} (h : Cond.methodLink own idx yD_value ∈ tw) (hR : r0D_value.frames + 1 ≤ R.frames ∧ 8 + (2 + 11) + r0D_value.locals ≤ R.locals) : (∀ w ∈ tw, w.before args s = true) → CallW R s args own "TracedCodeModel" idx yD_value bD_value 2 (some .int) wD_value r0D_value 0 0 1 := tw_kV 1 wm_902 wm_903 wm_9 wm_904 rfl rfl (by decide +kernel) h hR
abbrev r0D_read : Room := { frames := 2, cells := 0, slots := 0, locals := 48 }
abbrev wD_read : List Cond := Cond.code yD_read bD_read 4 (some .int) :: tw
theorem kVD_read {R : Room} {s : State} {args : Array Value} {own : String} {idx : Nat} (h : Cond.methodLink own idx yD_read ∈ tw) (hR : r0D_read.frames + 1 ≤ R.frames ∧ 8 + (4 + 11) + r0D_read.locals ≤ R.locals) : (∀ w ∈ tw, w.before args s = true) → CallW R s args own "TracedCodeModel" idx yD_read bD_read 4 (some .int) wD_read r0D_read 0 0 1 := tw_kV 1 wm_906 wm_907 wm_9 wm_908 rfl rfl (by decide +kernel) h hR
