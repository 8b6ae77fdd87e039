section
-- ===== PART A: goes FIRST, ahead of the names: the tables' words, and 'selects' of the private methods out of them =====
/-- a private method of a class that the tables say can be made, by its rows of tables_1 -/
def lw_okq (q : MethodName × Nat) : Prop := (q.1.cls ≠ "java/lang/invoke/MethodHandle" ∧ q.1.cls ≠ "java/lang/invoke/VarHandle") ∧ Cond.instantiable q.1.cls q.2 ∈ tables_1 ∧ Cond.privateMethod q.1 ∈ tables_1 ∧ Cond.instanceMethod q.1 ∈ tables_1
theorem lw_p0 : lw_okq (⟨"TracedCode$Shortener", "passCopiesOn", "(LTracedCode$Code;)Z"⟩, 2) := ⟨⟨by decide +kernel, by decide +kernel⟩, List.mem_of_getElem? (i := 44) (by decide +kernel), List.mem_of_getElem? (i := 179) (by decide +kernel), List.mem_of_getElem? (i := 180) (by decide +kernel)⟩
theorem lw_p1 : lw_okq (⟨"TracedCode$Shortener", "passOneOn", "(LTracedCode$Code;II)Z"⟩, 2) := ⟨⟨by decide +kernel, by decide +kernel⟩, List.mem_of_getElem? (i := 44) (by decide +kernel), List.mem_of_getElem? (i := 252) (by decide +kernel), List.mem_of_getElem? (i := 253) (by decide +kernel)⟩
theorem lw_p2 : lw_okq (⟨"TracedCode$Shortener", "leaveOutDead", "(LTracedCode$Code;)Z"⟩, 2) := ⟨⟨by decide +kernel, by decide +kernel⟩, List.mem_of_getElem? (i := 44) (by decide +kernel), List.mem_of_getElem? (i := 276) (by decide +kernel), List.mem_of_getElem? (i := 277) (by decide +kernel)⟩
theorem lw_p3 : lw_okq (⟨"TracedCode$Shortener", "findLive", "(LTracedCode$Code;)V"⟩, 2) := ⟨⟨by decide +kernel, by decide +kernel⟩, List.mem_of_getElem? (i := 44) (by decide +kernel), List.mem_of_getElem? (i := 280) (by decide +kernel), List.mem_of_getElem? (i := 281) (by decide +kernel)⟩
theorem lw_p4 : lw_okq (⟨"TracedCode$Shortener", "liveBefore", "(LTracedCode$Code;I)I"⟩, 2) := ⟨⟨by decide +kernel, by decide +kernel⟩, List.mem_of_getElem? (i := 44) (by decide +kernel), List.mem_of_getElem? (i := 287) (by decide +kernel), List.mem_of_getElem? (i := 288) (by decide +kernel)⟩
theorem lw_p5 : lw_okq (⟨"TracedCode$Shortener", "liveBehind", "(LTracedCode$Code;I)I"⟩, 2) := ⟨⟨by decide +kernel, by decide +kernel⟩, List.mem_of_getElem? (i := 44) (by decide +kernel), List.mem_of_getElem? (i := 292) (by decide +kernel), List.mem_of_getElem? (i := 293) (by decide +kernel)⟩
theorem lw_p6 : lw_okq (⟨"java/lang/Throwable", "fillInStackTrace", "(I)Ljava/lang/Throwable;"⟩, 6) := ⟨⟨by decide +kernel, by decide +kernel⟩, List.mem_of_getElem? (i := 375) (by decide +kernel), List.mem_of_getElem? (i := 373) (by decide +kernel), List.mem_of_getElem? (i := 374) (by decide +kernel)⟩
theorem lw_p7 : lw_okq (⟨"TracedCode", "newLine", "(IIII)I"⟩, 6) := ⟨⟨by decide +kernel, by decide +kernel⟩, List.mem_of_getElem? (i := 20) (by decide +kernel), List.mem_of_getElem? (i := 400) (by decide +kernel), List.mem_of_getElem? (i := 401) (by decide +kernel)⟩
theorem lw_p8 : lw_okq (⟨"TracedCode", "requireShortProgram", "()V"⟩, 6) := ⟨⟨by decide +kernel, by decide +kernel⟩, List.mem_of_getElem? (i := 20) (by decide +kernel), List.mem_of_getElem? (i := 472) (by decide +kernel), List.mem_of_getElem? (i := 473) (by decide +kernel)⟩
theorem lw_p9 : lw_okq (⟨"TracedCode", "isPoint", "(I)Z"⟩, 6) := ⟨⟨by decide +kernel, by decide +kernel⟩, List.mem_of_getElem? (i := 20) (by decide +kernel), List.mem_of_getElem? (i := 515) (by decide +kernel), List.mem_of_getElem? (i := 516) (by decide +kernel)⟩
theorem lw_p10 : lw_okq (⟨"TracedCode$Run", "giveValue", "(II)V"⟩, 6) := ⟨⟨by decide +kernel, by decide +kernel⟩, List.mem_of_getElem? (i := 94) (by decide +kernel), List.mem_of_getElem? (i := 559) (by decide +kernel), List.mem_of_getElem? (i := 560) (by decide +kernel)⟩
theorem lw_p11 : lw_okq (⟨"TracedCode$Machine", "putOut", "(I)V"⟩, 3) := ⟨⟨by decide +kernel, by decide +kernel⟩, List.mem_of_getElem? (i := 100) (by decide +kernel), List.mem_of_getElem? (i := 569) (by decide +kernel), List.mem_of_getElem? (i := 570) (by decide +kernel)⟩
theorem lw_p12 : lw_okq (⟨"TracedCodeModel", "newLine", "(IIII)I"⟩, 27) := ⟨⟨by decide +kernel, by decide +kernel⟩, List.mem_of_getElem? (i := 657) (by decide +kernel), List.mem_of_getElem? (i := 756) (by decide +kernel), List.mem_of_getElem? (i := 757) (by decide +kernel)⟩
theorem lw_p13 : lw_okq (⟨"TracedCodeModel", "reach", "()V"⟩, 27) := ⟨⟨by decide +kernel, by decide +kernel⟩, List.mem_of_getElem? (i := 657) (by decide +kernel), List.mem_of_getElem? (i := 788) (by decide +kernel), List.mem_of_getElem? (i := 789) (by decide +kernel)⟩
theorem lw_p14 : lw_okq (⟨"TracedCodeModel", "forget", "()V"⟩, 27) := ⟨⟨by decide +kernel, by decide +kernel⟩, List.mem_of_getElem? (i := 657) (by decide +kernel), List.mem_of_getElem? (i := 792) (by decide +kernel), List.mem_of_getElem? (i := 793) (by decide +kernel)⟩
theorem lw_p15 : lw_okq (⟨"TracedCodeModel", "meet", "(I)V"⟩, 27) := ⟨⟨by decide +kernel, by decide +kernel⟩, List.mem_of_getElem? (i := 657) (by decide +kernel), List.mem_of_getElem? (i := 796) (by decide +kernel), List.mem_of_getElem? (i := 797) (by decide +kernel)⟩
def lw_privs_1 : List (MethodName × Nat) := [(⟨"TracedCode$Shortener", "passCopiesOn", "(LTracedCode$Code;)Z"⟩, 2), (⟨"TracedCode$Shortener", "passOneOn", "(LTracedCode$Code;II)Z"⟩, 2), (⟨"TracedCode$Shortener", "leaveOutDead", "(LTracedCode$Code;)Z"⟩, 2), (⟨"TracedCode$Shortener", "findLive", "(LTracedCode$Code;)V"⟩, 2), (⟨"TracedCode$Shortener", "liveBefore", "(LTracedCode$Code;I)I"⟩, 2), (⟨"TracedCode$Shortener", "liveBehind", "(LTracedCode$Code;I)I"⟩, 2), (⟨"java/lang/Throwable", "fillInStackTrace", "(I)Ljava/lang/Throwable;"⟩, 6), (⟨"TracedCode", "newLine", "(IIII)I"⟩, 6), (⟨"TracedCode", "requireShortProgram", "()V"⟩, 6), (⟨"TracedCode", "isPoint", "(I)Z"⟩, 6), (⟨"TracedCode$Run", "giveValue", "(II)V"⟩, 6), (⟨"TracedCode$Machine", "putOut", "(I)V"⟩, 3), (⟨"TracedCodeModel", "newLine", "(IIII)I"⟩, 27), (⟨"TracedCodeModel", "reach", "()V"⟩, 27), (⟨"TracedCodeModel", "forget", "()V"⟩, 27), (⟨"TracedCodeModel", "meet", "(I)V"⟩, 27)]
theorem lw_r1 : ∀ q ∈ lw_privs_1, lw_okq q := List.forall_mem_cons.mpr ⟨lw_p0, List.forall_mem_cons.mpr ⟨lw_p1, List.forall_mem_cons.mpr ⟨lw_p2, List.forall_mem_cons.mpr ⟨lw_p3, List.forall_mem_cons.mpr ⟨lw_p4, List.forall_mem_cons.mpr ⟨lw_p5, List.forall_mem_cons.mpr ⟨lw_p6, List.forall_mem_cons.mpr ⟨lw_p7, List.forall_mem_cons.mpr ⟨lw_p8, List.forall_mem_cons.mpr ⟨lw_p9, List.forall_mem_cons.mpr ⟨lw_p10, List.forall_mem_cons.mpr ⟨lw_p11, List.forall_mem_cons.mpr ⟨lw_p12, List.forall_mem_cons.mpr ⟨lw_p13, List.forall_mem_cons.mpr ⟨lw_p14, List.forall_mem_cons.mpr ⟨lw_p15, fun _ h => absurd h List.not_mem_nil⟩⟩⟩⟩⟩⟩⟩⟩⟩⟩⟩⟩⟩⟩⟩⟩
theorem lw_p16 : lw_okq (⟨"TracedCodeModel", "targetOf", "(I)I"⟩, 27) := ⟨⟨by decide +kernel, by decide +kernel⟩, List.mem_of_getElem? (i := 657) (by decide +kernel), List.mem_of_getElem? (i := 800) (by decide +kernel), List.mem_of_getElem? (i := 801) (by decide +kernel)⟩
theorem lw_p17 : lw_okq (⟨"TracedCodeModel", "passOn", "()Z"⟩, 27) := ⟨⟨by decide +kernel, by decide +kernel⟩, List.mem_of_getElem? (i := 657) (by decide +kernel), List.mem_of_getElem? (i := 804) (by decide +kernel), List.mem_of_getElem? (i := 805) (by decide +kernel)⟩
theorem lw_p18 : lw_okq (⟨"TracedCodeModel", "follow", "(II)V"⟩, 27) := ⟨⟨by decide +kernel, by decide +kernel⟩, List.mem_of_getElem? (i := 657) (by decide +kernel), List.mem_of_getElem? (i := 808) (by decide +kernel), List.mem_of_getElem? (i := 809) (by decide +kernel)⟩
theorem lw_p19 : lw_okq (⟨"TracedCodeModel", "writes", "(II)Z"⟩, 27) := ⟨⟨by decide +kernel, by decide +kernel⟩, List.mem_of_getElem? (i := 657) (by decide +kernel), List.mem_of_getElem? (i := 812) (by decide +kernel), List.mem_of_getElem? (i := 813) (by decide +kernel)⟩
theorem lw_p20 : lw_okq (⟨"TracedCodeModel", "replace", "(III)V"⟩, 27) := ⟨⟨by decide +kernel, by decide +kernel⟩, List.mem_of_getElem? (i := 657) (by decide +kernel), List.mem_of_getElem? (i := 816) (by decide +kernel), List.mem_of_getElem? (i := 817) (by decide +kernel)⟩
theorem lw_p21 : lw_okq (⟨"TracedCodeModel", "empty", "(I)V"⟩, 27) := ⟨⟨by decide +kernel, by decide +kernel⟩, List.mem_of_getElem? (i := 657) (by decide +kernel), List.mem_of_getElem? (i := 820) (by decide +kernel), List.mem_of_getElem? (i := 821) (by decide +kernel)⟩
theorem lw_p22 : lw_okq (⟨"TracedCodeModel", "leaveOut", "()Z"⟩, 27) := ⟨⟨by decide +kernel, by decide +kernel⟩, List.mem_of_getElem? (i := 657) (by decide +kernel), List.mem_of_getElem? (i := 824) (by decide +kernel), List.mem_of_getElem? (i := 825) (by decide +kernel)⟩
theorem lw_p23 : lw_okq (⟨"TracedCodeModel", "isLive", "(II)Z"⟩, 27) := ⟨⟨by decide +kernel, by decide +kernel⟩, List.mem_of_getElem? (i := 657) (by decide +kernel), List.mem_of_getElem? (i := 828) (by decide +kernel), List.mem_of_getElem? (i := 829) (by decide +kernel)⟩
theorem lw_p24 : lw_okq (⟨"TracedCodeModel", "uses", "(II)Z"⟩, 27) := ⟨⟨by decide +kernel, by decide +kernel⟩, List.mem_of_getElem? (i := 657) (by decide +kernel), List.mem_of_getElem? (i := 832) (by decide +kernel), List.mem_of_getElem? (i := 833) (by decide +kernel)⟩
theorem lw_p25 : lw_okq (⟨"TracedCodeModel", "findCarriers", "()V"⟩, 27) := ⟨⟨by decide +kernel, by decide +kernel⟩, List.mem_of_getElem? (i := 657) (by decide +kernel), List.mem_of_getElem? (i := 836) (by decide +kernel), List.mem_of_getElem? (i := 837) (by decide +kernel)⟩
theorem lw_p26 : lw_okq (⟨"TracedCodeModel", "pass", "(I)V"⟩, 27) := ⟨⟨by decide +kernel, by decide +kernel⟩, List.mem_of_getElem? (i := 657) (by decide +kernel), List.mem_of_getElem? (i := 842) (by decide +kernel), List.mem_of_getElem? (i := 843) (by decide +kernel)⟩
theorem lw_p27 : lw_okq (⟨"TracedCodeModel", "spread", "(I)Z"⟩, 27) := ⟨⟨by decide +kernel, by decide +kernel⟩, List.mem_of_getElem? (i := 657) (by decide +kernel), List.mem_of_getElem? (i := 846) (by decide +kernel), List.mem_of_getElem? (i := 847) (by decide +kernel)⟩
theorem lw_p28 : lw_okq (⟨"TracedCodeModel", "begin", "()V"⟩, 27) := ⟨⟨by decide +kernel, by decide +kernel⟩, List.mem_of_getElem? (i := 657) (by decide +kernel), List.mem_of_getElem? (i := 850) (by decide +kernel), List.mem_of_getElem? (i := 851) (by decide +kernel)⟩
theorem lw_p29 : lw_okq (⟨"TracedCodeModel", "placeOf", "(II)I"⟩, 27) := ⟨⟨by decide +kernel, by decide +kernel⟩, List.mem_of_getElem? (i := 657) (by decide +kernel), List.mem_of_getElem? (i := 866) (by decide +kernel), List.mem_of_getElem? (i := 867) (by decide +kernel)⟩
theorem lw_p30 : lw_okq (⟨"TracedCodeModel", "isConstant", "(I)Z"⟩, 27) := ⟨⟨by decide +kernel, by decide +kernel⟩, List.mem_of_getElem? (i := 657) (by decide +kernel), List.mem_of_getElem? (i := 870) (by decide +kernel), List.mem_of_getElem? (i := 871) (by decide +kernel)⟩
theorem lw_p31 : lw_okq (⟨"TracedCodeModel", "does", "(II)Z"⟩, 27) := ⟨⟨by decide +kernel, by decide +kernel⟩, List.mem_of_getElem? (i := 657) (by decide +kernel), List.mem_of_getElem? (i := 886) (by decide +kernel), List.mem_of_getElem? (i := 887) (by decide +kernel)⟩
def lw_privs_2 : List (MethodName × Nat) := [(⟨"TracedCodeModel", "targetOf", "(I)I"⟩, 27), (⟨"TracedCodeModel", "passOn", "()Z"⟩, 27), (⟨"TracedCodeModel", "follow", "(II)V"⟩, 27), (⟨"TracedCodeModel", "writes", "(II)Z"⟩, 27), (⟨"TracedCodeModel", "replace", "(III)V"⟩, 27), (⟨"TracedCodeModel", "empty", "(I)V"⟩, 27), (⟨"TracedCodeModel", "leaveOut", "()Z"⟩, 27), (⟨"TracedCodeModel", "isLive", "(II)Z"⟩, 27), (⟨"TracedCodeModel", "uses", "(II)Z"⟩, 27), (⟨"TracedCodeModel", "findCarriers", "()V"⟩, 27), (⟨"TracedCodeModel", "pass", "(I)V"⟩, 27), (⟨"TracedCodeModel", "spread", "(I)Z"⟩, 27), (⟨"TracedCodeModel", "begin", "()V"⟩, 27), (⟨"TracedCodeModel", "placeOf", "(II)I"⟩, 27), (⟨"TracedCodeModel", "isConstant", "(I)Z"⟩, 27), (⟨"TracedCodeModel", "does", "(II)Z"⟩, 27)]
theorem lw_r2 : ∀ q ∈ lw_privs_2, lw_okq q := List.forall_mem_cons.mpr ⟨lw_p16, List.forall_mem_cons.mpr ⟨lw_p17, List.forall_mem_cons.mpr ⟨lw_p18, List.forall_mem_cons.mpr ⟨lw_p19, List.forall_mem_cons.mpr ⟨lw_p20, List.forall_mem_cons.mpr ⟨lw_p21, List.forall_mem_cons.mpr ⟨lw_p22, List.forall_mem_cons.mpr ⟨lw_p23, List.forall_mem_cons.mpr ⟨lw_p24, List.forall_mem_cons.mpr ⟨lw_p25, List.forall_mem_cons.mpr ⟨lw_p26, List.forall_mem_cons.mpr ⟨lw_p27, List.forall_mem_cons.mpr ⟨lw_p28, List.forall_mem_cons.mpr ⟨lw_p29, List.forall_mem_cons.mpr ⟨lw_p30, List.forall_mem_cons.mpr ⟨lw_p31, fun _ h => absurd h List.not_mem_nil⟩⟩⟩⟩⟩⟩⟩⟩⟩⟩⟩⟩⟩⟩⟩⟩
def lw_privs : List (MethodName × Nat) := lw_privs_1 ++ (lw_privs_2)
def lw_tbl : List Cond := k2_sels lw_privs ++ tables_1
theorem lw_privs_ok : ∀ q ∈ lw_privs, lw_okq q := by
  show ∀ q ∈ lw_privs_1 ++ (lw_privs_2), lw_okq q
  exact List.forall_mem_append.mpr ⟨lw_r1, lw_r2⟩
/-! names of classes, fields and methods; the good words of the tables -/
def tw : List Cond := lw_tbl.filter goodWord
theorem tw_of {w : Cond} (i : Nat) (h : tables_1[i]? = some w) (g : goodWord w = true) : w ∈ tw := List.mem_filter.mpr ⟨List.mem_append_right _ (List.mem_of_getElem? h), g⟩
theorem tw_sel {w : Cond} (i : Nat) (h : (k2_sels lw_privs)[i]? = some w) (g : goodWord w = true) : w ∈ tw := List.mem_filter.mpr ⟨List.mem_append_left _ (List.mem_of_getElem? h), g⟩
theorem tw_good {w : Cond} (h : w ∈ tw) : goodWord w = true := (List.mem_filter.mp h).2
theorem tw_GI {ws : List Cond} (h : ∀ w ∈ ws, w ∈ tw) : GoodIn tw ws := fun w hw => ⟨h w hw, good_of_word (tw_good (h w hw))⟩
theorem tw_c {c : Cond} (h : c ∈ tw) : ∀ w ∈ c :: tw, w ∈ tw := fun w hw => (List.mem_cons.mp hw).elim (fun e => e ▸ h) id
def TT_ : u_T := fun k => match k with
  | 0 => ("TracedCode", "program", "LTracedCode$Code;", true)
  | 1 => ("TracedCode", "shortProgram", "LTracedCode$Code;", true)
  | 2 => ("TracedCode", "shortener", "LTracedCode$Shortener;", true)
  | 3 => ("TracedCode", "carrierLists", "LTracedCode$Carriers;", true)
  | 4 => ("TracedCode", "run", "LTracedCode$Run;", true)
  | _ => ("TracedCode", "shortened", "Z", false)
def tyT_ : Nat → FieldType := fun k => match k with
  | 0 => .object "TracedCode$Code"
  | 1 => .object "TracedCode$Code"
  | 2 => .object "TracedCode$Shortener"
  | 3 => .object "TracedCode$Carriers"
  | 4 => .object "TracedCode$Run"
  | _ => .boolean
theorem nmT_ : ∀ a, a < 6 → ∀ b, b < 6 → a ≠ b → (TT_ a).2.1 ≠ (TT_ b).2.1 := by decide +kernel
theorem okT_ : ∀ k, k < 6 → parseFieldDescriptor (TT_ k).2.2.1 = some (tyT_ k) := by decide +kernel
def TC_ : u_T := fun k => match k with
  | 0 => ("TracedCode$Code", "numbers", "[[I", true)
  | _ => ("TracedCode$Code", "size", "I", false)
def tyC_ : Nat → FieldType := fun k => match k with
  | 0 => .array (.array .int)
  | _ => .int
theorem nmC_ : ∀ a, a < 2 → ∀ b, b < 2 → a ≠ b → (TC_ a).2.1 ≠ (TC_ b).2.1 := by decide +kernel
theorem okC_ : ∀ k, k < 2 → parseFieldDescriptor (TC_ k).2.2.1 = some (tyC_ k) := by decide +kernel
def TF_ : u_T := fun k => match k with
  | _ => ("", "", "", false)
def tyF_ : Nat → FieldType := fun k => match k with
  | _ => .int
theorem nmF_ : ∀ a, a < 0 → ∀ b, b < 0 → a ≠ b → (TF_ a).2.1 ≠ (TF_ b).2.1 := by decide +kernel
theorem okF_ : ∀ k, k < 0 → parseFieldDescriptor (TF_ k).2.2.1 = some (tyF_ k) := by decide +kernel
def TP_ : u_T := fun k => match k with
  | 0 => ("TracedCode$Copies", "origins", "[[I", true)
  | _ => ("TracedCode$Copies", "behind", "[I", true)
def tyP_ : Nat → FieldType := fun k => match k with
  | 0 => .array (.array .int)
  | _ => .array .int
theorem nmP_ : ∀ a, a < 2 → ∀ b, b < 2 → a ≠ b → (TP_ a).2.1 ≠ (TP_ b).2.1 := by decide +kernel
theorem okP_ : ∀ k, k < 2 → parseFieldDescriptor (TP_ k).2.2.1 = some (tyP_ k) := by decide +kernel
def TK_ : u_T := fun k => match k with
  | 0 => ("TracedCode$Carriers", "marks", "[[I", true)
  | 1 => ("TracedCode$Carriers", "constants", "[[I", true)
  | 2 => ("TracedCode$Carriers", "marksBehind", "[I", true)
  | _ => ("TracedCode$Carriers", "constantsBehind", "[I", true)
def tyK_ : Nat → FieldType := fun k => match k with
  | 0 => .array (.array .int)
  | 1 => .array (.array .int)
  | 2 => .array .int
  | _ => .array .int
theorem nmK_ : ∀ a, a < 4 → ∀ b, b < 4 → a ≠ b → (TK_ a).2.1 ≠ (TK_ b).2.1 := by decide +kernel
theorem okK_ : ∀ k, k < 4 → parseFieldDescriptor (TK_ k).2.2.1 = some (tyK_ k) := by decide +kernel
def TM_ : u_T := fun k => match k with
  | 0 => ("TracedCode$Machine", "contents", "[I", true)
  | 1 => ("TracedCode$Machine", "outputs", "[I", true)
  | _ => ("TracedCode$Machine", "outputCount", "I", false)
def tyM_ : Nat → FieldType := fun k => match k with
  | 0 => .array .int
  | 1 => .array .int
  | _ => .int
theorem nmM_ : ∀ a, a < 3 → ∀ b, b < 3 → a ≠ b → (TM_ a).2.1 ≠ (TM_ b).2.1 := by decide +kernel
theorem okM_ : ∀ k, k < 3 → parseFieldDescriptor (TM_ k).2.2.1 = some (tyM_ k) := by decide +kernel
def TR_ : u_T := fun k => match k with
  | 0 => ("TracedCode$Run", "whole", "LTracedCode$Machine;", true)
  | 1 => ("TracedCode$Run", "brief", "LTracedCode$Machine;", true)
  | 2 => ("TracedCode$Run", "values", "[I", true)
  | 3 => ("TracedCode$Run", "valued", "[Z", true)
  | 4 => ("TracedCode$Run", "position", "I", false)
  | _ => ("TracedCode$Run", "steps", "I", false)
def tyR_ : Nat → FieldType := fun k => match k with
  | 0 => .object "TracedCode$Machine"
  | 1 => .object "TracedCode$Machine"
  | 2 => .array .int
  | 3 => .array .boolean
  | 4 => .int
  | _ => .int
theorem nmR_ : ∀ a, a < 6 → ∀ b, b < 6 → a ≠ b → (TR_ a).2.1 ≠ (TR_ b).2.1 := by decide +kernel
theorem okR_ : ∀ k, k < 6 → parseFieldDescriptor (TR_ k).2.2.1 = some (tyR_ k) := by decide +kernel
def TS_ : u_T := fun k => match k with
  | 0 => ("TracedCode$Shortener", "copies", "LTracedCode$Copies;", true)
  | _ => ("TracedCode$Shortener", "live", "[I", true)
def tyS_ : Nat → FieldType := fun k => match k with
  | 0 => .object "TracedCode$Copies"
  | _ => .array .int
theorem nmS_ : ∀ a, a < 2 → ∀ b, b < 2 → a ≠ b → (TS_ a).2.1 ≠ (TS_ b).2.1 := by decide +kernel
theorem okS_ : ∀ k, k < 2 → parseFieldDescriptor (TS_ k).2.2.1 = some (tyS_ k) := by decide +kernel
def TD_ : u_T := fun k => match k with
  | 0 => ("TracedCodeModel", "code", "I", false)
  | 1 => ("TracedCodeModel", "lines", "I", false)
  | 2 => ("TracedCodeModel", "kind", "[I", true)
  | 3 => ("TracedCodeModel", "one", "[I", true)
  | 4 => ("TracedCodeModel", "two", "[I", true)
  | 5 => ("TracedCodeModel", "three", "[I", true)
  | 6 => ("TracedCodeModel", "made", "Z", false)
  | 7 => ("TracedCodeModel", "newTwo", "[I", true)
  | 8 => ("TracedCodeModel", "newThree", "[I", true)
  | 9 => ("TracedCodeModel", "newOne", "[I", true)
  | 10 => ("TracedCodeModel", "dead", "[Z", true)
  | 11 => ("TracedCodeModel", "reached", "[Z", true)
  | 12 => ("TracedCodeModel", "met", "[Z", true)
  | 13 => ("TracedCodeModel", "waiting", "[I", true)
  | 14 => ("TracedCodeModel", "left", "I", false)
  | 15 => ("TracedCodeModel", "lacks", "[I", true)
  | 16 => ("TracedCodeModel", "origins", "[I", true)
  | 17 => ("TracedCodeModel", "lacksThen", "[I", true)
  | 18 => ("TracedCodeModel", "originsThen", "[I", true)
  | 19 => ("TracedCodeModel", "at", "I", false)
  | 20 => ("TracedCodeModel", "steps", "I", false)
  | 21 => ("TracedCodeModel", "registers", "[I", true)
  | 22 => ("TracedCodeModel", "values", "[I", true)
  | 23 => ("TracedCodeModel", "named", "[Z", true)
  | 24 => ("TracedCodeModel", "outputs", "I", false)
  | 25 => ("TracedCodeModel", "output", "[I", true)
  | _ => ("TracedCodeModel", "constant", "I", false)
def tyD_ : Nat → FieldType := fun k => match k with
  | 0 => .int
  | 1 => .int
  | 2 => .array .int
  | 3 => .array .int
  | 4 => .array .int
  | 5 => .array .int
  | 6 => .boolean
  | 7 => .array .int
  | 8 => .array .int
  | 9 => .array .int
  | 10 => .array .boolean
  | 11 => .array .boolean
  | 12 => .array .boolean
  | 13 => .array .int
  | 14 => .int
  | 15 => .array .int
  | 16 => .array .int
  | 17 => .array .int
  | 18 => .array .int
  | 19 => .int
  | 20 => .int
  | 21 => .array .int
  | 22 => .array .int
  | 23 => .array .boolean
  | 24 => .int
  | 25 => .array .int
  | _ => .int
theorem nmD_ : ∀ a, a < 27 → ∀ b, b < 27 → a ≠ b → (TD_ a).2.1 ≠ (TD_ b).2.1 := by decide +kernel
theorem okD_ : ∀ k, k < 27 → parseFieldDescriptor (TD_ k).2.2.1 = some (tyD_ k) := by decide +kernel
def yT_init : MethodName := ⟨"TracedCode", "<init>", "()V"⟩
abbrev bT_init : ByteArray := prog_1_method_1_code
def yC_init : MethodName := ⟨"TracedCode$Code", "<init>", "()V"⟩
abbrev bC_init : ByteArray := prog_3_method_1_code
def yS_init : MethodName := ⟨"TracedCode$Shortener", "<init>", "()V"⟩
abbrev bS_init : ByteArray := prog_8_method_1_code
def yP_init : MethodName := ⟨"TracedCode$Copies", "<init>", "()V"⟩
abbrev bP_init : ByteArray := prog_4_method_1_code
def yF_init : MethodName := ⟨"TracedCode$Facts", "<init>", "()V"⟩
abbrev bF_init : ByteArray := prog_5_method_1_code
def yK_init : MethodName := ⟨"TracedCode$Carriers", "<init>", "()V"⟩
abbrev bK_init : ByteArray := prog_2_method_1_code
def yR_init : MethodName := ⟨"TracedCode$Run", "<init>", "()V"⟩
abbrev bR_init : ByteArray := prog_7_method_1_code
def yM_init : MethodName := ⟨"TracedCode$Machine", "<init>", "()V"⟩
abbrev bM_init : ByteArray := prog_6_method_1_code
def yT_clear : MethodName := ⟨"TracedCode", "clear", "()V"⟩
abbrev bT_clear : ByteArray := prog_1_method_8_code
def yC_dropLines : MethodName := ⟨"TracedCode$Code", "dropLines", "()V"⟩
abbrev bC_dropLines : ByteArray := prog_3_method_6_code
def yT_shorten : MethodName := ⟨"TracedCode", "shorten", "()I"⟩
abbrev bT_shorten : ByteArray := prog_1_method_9_code
def yC_takeLines : MethodName := ⟨"TracedCode$Code", "takeLines", "(LTracedCode$Code;)V"⟩
abbrev bC_takeLines : ByteArray := prog_3_method_7_code
def yS_changingRounds : MethodName := ⟨"TracedCode$Shortener", "changingRounds", "(LTracedCode$Code;)I"⟩
abbrev bS_changingRounds : ByteArray := prog_8_method_2_code
def yS_passCopiesOn : MethodName := ⟨"TracedCode$Shortener", "passCopiesOn", "(LTracedCode$Code;)Z"⟩
abbrev bS_passCopiesOn : ByteArray := prog_8_method_3_code
def yP_find : MethodName := ⟨"TracedCode$Copies", "find", "(LTracedCode$Code;)V"⟩
abbrev bP_find : ByteArray := prog_4_method_2_code
def yF_settle : MethodName := ⟨"TracedCode$Facts", "settle", "(LTracedCode$Code;LTracedCode$Code;)V"⟩
abbrev bF_settle : ByteArray := prog_5_method_5_code
def yC_size : MethodName := ⟨"TracedCode$Code", "size", "()I"⟩
abbrev bC_size : ByteArray := prog_3_method_2_code
def yK_follow : MethodName := ⟨"TracedCode$Carriers", "follow", "(LTracedCode$Code;LTracedCode$Code;I)V"⟩
abbrev bK_follow : ByteArray := prog_2_method_6_code
def yK_behindShortLine : MethodName := ⟨"TracedCode$Carriers", "behindShortLine", "(ILTracedCode$Code;I)I"⟩
abbrev bK_behindShortLine : ByteArray := prog_2_method_7_code
def yC_written : MethodName := ⟨"TracedCode$Code", "written", "(I)I"⟩
abbrev bC_written : ByteArray := prog_3_method_13_code
def yC_kind : MethodName := ⟨"TracedCode$Code", "kind", "(I)I"⟩
abbrev bC_kind : ByteArray := prog_3_method_4_code
def yC_number : MethodName := ⟨"TracedCode$Code", "number", "(II)I"⟩
abbrev bC_number : ByteArray := prog_3_method_3_code
def yC_isEmpty : MethodName := ⟨"TracedCode$Code", "isEmpty", "(I)Z"⟩
abbrev bC_isEmpty : ByteArray := prog_3_method_9_code
def yP_follow : MethodName := ⟨"TracedCode$Copies", "follow", "(LTracedCode$Code;LTracedCode$Code;I)V"⟩
abbrev bP_follow : ByteArray := prog_4_method_4_code
def yK_put : MethodName := ⟨"TracedCode$Carriers", "put", "(I)V"⟩
abbrev bK_put : ByteArray := prog_2_method_8_code
def yP_put : MethodName := ⟨"TracedCode$Copies", "put", "(I)V"⟩
abbrev bP_put : ByteArray := prog_4_method_5_code
def yK_narrow : MethodName := ⟨"TracedCode$Carriers", "narrow", "(I)Z"⟩
abbrev bK_narrow : ByteArray := prog_2_method_9_code
def yP_narrow : MethodName := ⟨"TracedCode$Copies", "narrow", "(I)Z"⟩
abbrev bP_narrow : ByteArray := prog_4_method_6_code
def yC_target : MethodName := ⟨"TracedCode$Code", "target", "(I)I"⟩
abbrev bC_target : ByteArray := prog_3_method_15_code
def yS_passOneOn : MethodName := ⟨"TracedCode$Shortener", "passOneOn", "(LTracedCode$Code;II)Z"⟩
abbrev bS_passOneOn : ByteArray := prog_8_method_4_code
def yC_readsAt : MethodName := ⟨"TracedCode$Code", "readsAt", "(II)Z"⟩
abbrev bC_readsAt : ByteArray := prog_3_method_11_code
def yP_origin : MethodName := ⟨"TracedCode$Copies", "origin", "(II)I"⟩
abbrev bP_origin : ByteArray := prog_4_method_3_code
def yC_readInstead : MethodName := ⟨"TracedCode$Code", "readInstead", "(III)V"⟩
abbrev bC_readInstead : ByteArray := prog_3_method_12_code
def yC_makeEmpty : MethodName := ⟨"TracedCode$Code", "makeEmpty", "(I)V"⟩
abbrev bC_makeEmpty : ByteArray := prog_3_method_8_code
def yS_leaveOutDead : MethodName := ⟨"TracedCode$Shortener", "leaveOutDead", "(LTracedCode$Code;)Z"⟩
abbrev bS_leaveOutDead : ByteArray := prog_8_method_5_code
def yS_findLive : MethodName := ⟨"TracedCode$Shortener", "findLive", "(LTracedCode$Code;)V"⟩
abbrev bS_findLive : ByteArray := prog_8_method_6_code
def yA_fill : MethodName := ⟨"java/util/Arrays", "fill", "([II)V"⟩
abbrev bA_fill : ByteArray := prog_18_method_103_code
def yS_liveBefore : MethodName := ⟨"TracedCode$Shortener", "liveBefore", "(LTracedCode$Code;I)I"⟩
abbrev bS_liveBefore : ByteArray := prog_8_method_7_code
def yS_liveBehind : MethodName := ⟨"TracedCode$Shortener", "liveBehind", "(LTracedCode$Code;I)I"⟩
abbrev bS_liveBehind : ByteArray := prog_8_method_8_code
def yC_needed : MethodName := ⟨"TracedCode$Code", "needed", "(I)I"⟩
abbrev bC_needed : ByteArray := prog_3_method_14_code
def yK_find : MethodName := ⟨"TracedCode$Carriers", "find", "(LTracedCode$Code;LTracedCode$Code;)V"⟩
abbrev bK_find : ByteArray := prog_2_method_2_code
def yR_begin : MethodName := ⟨"TracedCode$Run", "begin", "()V"⟩
abbrev bR_begin : ByteArray := prog_7_method_2_code
def yM_begin : MethodName := ⟨"TracedCode$Machine", "begin", "()V"⟩
abbrev bM_begin : ByteArray := prog_6_method_2_code
def yL_set : MethodName := ⟨"TracedCodeLaw", "set", "(LTracedCode;II[J)I"⟩
abbrev bL_set : ByteArray := method_3_code
def yT_set : MethodName := ⟨"TracedCode", "set", "(II)I"⟩
abbrev bT_set : ByteArray := prog_1_method_2_code
def yT_isRegister : MethodName := ⟨"TracedCode", "isRegister", "(I)Z"⟩
abbrev bT_isRegister : ByteArray := prog_1_method_23_code
def yT_isBelow : MethodName := ⟨"TracedCode", "isBelow", "(II)Z"⟩
abbrev bT_isBelow : ByteArray := prog_1_method_25_code
def yT_requireArgument : MethodName := ⟨"TracedCode", "requireArgument", "(Z)V"⟩
abbrev bT_requireArgument : ByteArray := prog_1_method_28_code
def yT_newLine : MethodName := ⟨"TracedCode", "newLine", "(IIII)I"⟩
abbrev bT_newLine : ByteArray := prog_1_method_21_code
def yT_requireState : MethodName := ⟨"TracedCode", "requireState", "(Z)V"⟩
abbrev bT_requireState : ByteArray := prog_1_method_27_code
def yC_append : MethodName := ⟨"TracedCode$Code", "append", "(IIII)I"⟩
abbrev bC_append : ByteArray := prog_3_method_5_code
def yL_copy : MethodName := ⟨"TracedCodeLaw", "copy", "(LTracedCode;II[J)I"⟩
abbrev bL_copy : ByteArray := method_4_code
def yT_copy : MethodName := ⟨"TracedCode", "copy", "(II)I"⟩
abbrev bT_copy : ByteArray := prog_1_method_3_code
def yL_add : MethodName := ⟨"TracedCodeLaw", "add", "(LTracedCode;III[J)I"⟩
abbrev bL_add : ByteArray := method_5_code
def yT_add : MethodName := ⟨"TracedCode", "add", "(III)I"⟩
abbrev bT_add : ByteArray := prog_1_method_4_code
def yL_out : MethodName := ⟨"TracedCodeLaw", "out", "(LTracedCode;I[J)I"⟩
abbrev bL_out : ByteArray := method_6_code
def yT_out : MethodName := ⟨"TracedCode", "out", "(I)I"⟩
abbrev bT_out : ByteArray := prog_1_method_5_code
def yL_jump : MethodName := ⟨"TracedCodeLaw", "jump", "(LTracedCode;II[J)I"⟩
abbrev bL_jump : ByteArray := method_7_code
def yT_jump : MethodName := ⟨"TracedCode", "jump", "(II)I"⟩
abbrev bT_jump : ByteArray := prog_1_method_6_code
def yL_name : MethodName := ⟨"TracedCodeLaw", "name", "(LTracedCode;II[J)I"⟩
abbrev bL_name : ByteArray := method_8_code
def yT_name : MethodName := ⟨"TracedCode", "name", "(II)I"⟩
abbrev bT_name : ByteArray := prog_1_method_7_code
def yT_isVariable : MethodName := ⟨"TracedCode", "isVariable", "(I)Z"⟩
abbrev bT_isVariable : ByteArray := prog_1_method_24_code
def yL_kept : MethodName := ⟨"TracedCodeLaw", "kept", "(LTracedCode;[J)I"⟩
abbrev bL_kept : ByteArray := method_9_code
def yT_kept : MethodName := ⟨"TracedCode", "kept", "()I"⟩
abbrev bT_kept : ByteArray := prog_1_method_10_code
def yT_requireShortProgram : MethodName := ⟨"TracedCode", "requireShortProgram", "()V"⟩
abbrev bT_requireShortProgram : ByteArray := prog_1_method_26_code
def yC_fullLines : MethodName := ⟨"TracedCode$Code", "fullLines", "()I"⟩
abbrev bC_fullLines : ByteArray := prog_3_method_10_code
def yL_part : MethodName := ⟨"TracedCodeLaw", "part", "(LTracedCode;II[J)I"⟩
abbrev bL_part : ByteArray := method_10_code
def yT_part : MethodName := ⟨"TracedCode", "part", "(II)I"⟩
abbrev bT_part : ByteArray := prog_1_method_11_code
def yT_requireIndex : MethodName := ⟨"TracedCode", "requireIndex", "(Z)V"⟩
abbrev bT_requireIndex : ByteArray := prog_1_method_29_code
def yL_where : MethodName := ⟨"TracedCodeLaw", "where", "(LTracedCode;II[J)I"⟩
abbrev bL_where : ByteArray := method_11_code
def yT_where : MethodName := ⟨"TracedCode", "where", "(II)I"⟩
abbrev bT_where : ByteArray := prog_1_method_12_code
def yT_isPoint : MethodName := ⟨"TracedCode", "isPoint", "(I)Z"⟩
abbrev bT_isPoint : ByteArray := prog_1_method_22_code
def yK_placeOfVariable : MethodName := ⟨"TracedCode$Carriers", "placeOfVariable", "(II)I"⟩
abbrev bK_placeOfVariable : ByteArray := prog_2_method_4_code
def yL_carriers : MethodName := ⟨"TracedCodeLaw", "carriers", "(LTracedCode;II[J)I"⟩
abbrev bL_carriers : ByteArray := method_12_code
def yT_carriers : MethodName := ⟨"TracedCode", "carriers", "(II)I"⟩
abbrev bT_carriers : ByteArray := prog_1_method_13_code
def yK_ofRegister : MethodName := ⟨"TracedCode$Carriers", "ofRegister", "(II)I"⟩
abbrev bK_ofRegister : ByteArray := prog_2_method_3_code
def yL_restart : MethodName := ⟨"TracedCodeLaw", "restart", "(LTracedCode;)I"⟩
abbrev bL_restart : ByteArray := method_13_code
def yT_restart : MethodName := ⟨"TracedCode", "restart", "()V"⟩
abbrev bT_restart : ByteArray := prog_1_method_14_code
def yL_step : MethodName := ⟨"TracedCodeLaw", "step", "(LTracedCode;[J)I"⟩
abbrev bL_step : ByteArray := method_14_code
def yT_step : MethodName := ⟨"TracedCode", "step", "()I"⟩
abbrev bT_step : ByteArray := prog_1_method_15_code
def yR_advance : MethodName := ⟨"TracedCode$Run", "advance", "(LTracedCode$Code;LTracedCode$Code;)I"⟩
abbrev bR_advance : ByteArray := prog_7_method_7_code
def yM_content : MethodName := ⟨"TracedCode$Machine", "content", "(I)I"⟩
abbrev bM_content : ByteArray := prog_6_method_3_code
def yR_giveValue : MethodName := ⟨"TracedCode$Run", "giveValue", "(II)V"⟩
abbrev bR_giveValue : ByteArray := prog_7_method_8_code
def yM_perform : MethodName := ⟨"TracedCode$Machine", "perform", "(LTracedCode$Code;I)I"⟩
abbrev bM_perform : ByteArray := prog_6_method_6_code
def yM_putOut : MethodName := ⟨"TracedCode$Machine", "putOut", "(I)V"⟩
abbrev bM_putOut : ByteArray := prog_6_method_7_code
def yL_line : MethodName := ⟨"TracedCodeLaw", "line", "(LTracedCode;[J)I"⟩
abbrev bL_line : ByteArray := method_15_code
def yT_line : MethodName := ⟨"TracedCode", "line", "()I"⟩
abbrev bT_line : ByteArray := prog_1_method_16_code
def yR_position : MethodName := ⟨"TracedCode$Run", "position", "()I"⟩
abbrev bR_position : ByteArray := prog_7_method_3_code
def yL_register : MethodName := ⟨"TracedCodeLaw", "register", "(LTracedCode;IZ[J)I"⟩
abbrev bL_register : ByteArray := method_16_code
def yT_register : MethodName := ⟨"TracedCode", "register", "(IZ)I"⟩
abbrev bT_register : ByteArray := prog_1_method_17_code
def yR_machine : MethodName := ⟨"TracedCode$Run", "machine", "(Z)LTracedCode$Machine;"⟩
abbrev bR_machine : ByteArray := prog_7_method_4_code
def yL_output : MethodName := ⟨"TracedCodeLaw", "output", "(LTracedCode;IZ[J)I"⟩
abbrev bL_output : ByteArray := method_17_code
def yT_output : MethodName := ⟨"TracedCode", "output", "(IZ)I"⟩
abbrev bT_output : ByteArray := prog_1_method_18_code
def yM_outputCount : MethodName := ⟨"TracedCode$Machine", "outputCount", "()I"⟩
abbrev bM_outputCount : ByteArray := prog_6_method_4_code
def yM_outputAt : MethodName := ⟨"TracedCode$Machine", "outputAt", "(I)I"⟩
abbrev bM_outputAt : ByteArray := prog_6_method_5_code
def yL_value : MethodName := ⟨"TracedCodeLaw", "value", "(LTracedCode;I[J)I"⟩
abbrev bL_value : ByteArray := method_18_code
def yT_value : MethodName := ⟨"TracedCode", "value", "(I)I"⟩
abbrev bT_value : ByteArray := prog_1_method_19_code
def yR_hasValue : MethodName := ⟨"TracedCode$Run", "hasValue", "(I)Z"⟩
abbrev bR_hasValue : ByteArray := prog_7_method_5_code
def yR_valueOf : MethodName := ⟨"TracedCode$Run", "valueOf", "(I)I"⟩
abbrev bR_valueOf : ByteArray := prog_7_method_6_code
def yL_read : MethodName := ⟨"TracedCodeLaw", "read", "(LTracedCode;I[J)I"⟩
abbrev bL_read : ByteArray := method_19_code
def yT_read : MethodName := ⟨"TracedCode", "read", "(I)I"⟩
abbrev bT_read : ByteArray := prog_1_method_20_code
def yT_requireFound : MethodName := ⟨"TracedCode", "requireFound", "(Z)V"⟩
abbrev bT_requireFound : ByteArray := prog_1_method_30_code
def yK_constantOfVariable : MethodName := ⟨"TracedCode$Carriers", "constantOfVariable", "(II)I"⟩
abbrev bK_constantOfVariable : ByteArray := prog_2_method_5_code
def yD_init : MethodName := ⟨"TracedCodeModel", "<init>", "()V"⟩
abbrev bD_init : ByteArray := prog_10_method_1_code
def yD_thrown : MethodName := ⟨"TracedCodeModel", "thrown", "()I"⟩
abbrev bD_thrown : ByteArray := prog_10_method_2_code
def yD_set : MethodName := ⟨"TracedCodeModel", "set", "(II)I"⟩
abbrev bD_set : ByteArray := prog_10_method_5_code
def yD_noRegister : MethodName := ⟨"TracedCodeModel", "noRegister", "(I)Z"⟩
abbrev bD_noRegister : ByteArray := prog_10_method_3_code
def yD_newLine : MethodName := ⟨"TracedCodeModel", "newLine", "(IIII)I"⟩
abbrev bD_newLine : ByteArray := prog_10_method_4_code
def yD_copy : MethodName := ⟨"TracedCodeModel", "copy", "(II)I"⟩
abbrev bD_copy : ByteArray := prog_10_method_6_code
def yD_add : MethodName := ⟨"TracedCodeModel", "add", "(III)I"⟩
abbrev bD_add : ByteArray := prog_10_method_7_code
def yD_out : MethodName := ⟨"TracedCodeModel", "out", "(I)I"⟩
abbrev bD_out : ByteArray := prog_10_method_8_code
def yD_jump : MethodName := ⟨"TracedCodeModel", "jump", "(II)I"⟩
abbrev bD_jump : ByteArray := prog_10_method_9_code
def yD_name : MethodName := ⟨"TracedCodeModel", "name", "(II)I"⟩
abbrev bD_name : ByteArray := prog_10_method_10_code
def yD_clear : MethodName := ⟨"TracedCodeModel", "clear", "()V"⟩
abbrev bD_clear : ByteArray := prog_10_method_11_code
def yD_shorten : MethodName := ⟨"TracedCodeModel", "shorten", "()I"⟩
abbrev bD_shorten : ByteArray := prog_10_method_27_code
def yD_reach : MethodName := ⟨"TracedCodeModel", "reach", "()V"⟩
abbrev bD_reach : ByteArray := prog_10_method_15_code
def yD_forget : MethodName := ⟨"TracedCodeModel", "forget", "()V"⟩
abbrev bD_forget : ByteArray := prog_10_method_14_code
def yD_meet : MethodName := ⟨"TracedCodeModel", "meet", "(I)V"⟩
abbrev bD_meet : ByteArray := prog_10_method_13_code
def yD_targetOf : MethodName := ⟨"TracedCodeModel", "targetOf", "(I)I"⟩
abbrev bD_targetOf : ByteArray := prog_10_method_12_code
def yD_passOn : MethodName := ⟨"TracedCodeModel", "passOn", "()Z"⟩
abbrev bD_passOn : ByteArray := prog_10_method_19_code
def yD_follow : MethodName := ⟨"TracedCodeModel", "follow", "(II)V"⟩
abbrev bD_follow : ByteArray := prog_10_method_17_code
def yD_writes : MethodName := ⟨"TracedCodeModel", "writes", "(II)Z"⟩
abbrev bD_writes : ByteArray := prog_10_method_16_code
def yD_replace : MethodName := ⟨"TracedCodeModel", "replace", "(III)V"⟩
abbrev bD_replace : ByteArray := prog_10_method_18_code
def yD_empty : MethodName := ⟨"TracedCodeModel", "empty", "(I)V"⟩
abbrev bD_empty : ByteArray := prog_10_method_20_code
def yD_leaveOut : MethodName := ⟨"TracedCodeModel", "leaveOut", "()Z"⟩
abbrev bD_leaveOut : ByteArray := prog_10_method_23_code
def yD_isLive : MethodName := ⟨"TracedCodeModel", "isLive", "(II)Z"⟩
abbrev bD_isLive : ByteArray := prog_10_method_22_code
def yD_uses : MethodName := ⟨"TracedCodeModel", "uses", "(II)Z"⟩
abbrev bD_uses : ByteArray := prog_10_method_21_code
def yD_findCarriers : MethodName := ⟨"TracedCodeModel", "findCarriers", "()V"⟩
abbrev bD_findCarriers : ByteArray := prog_10_method_26_code
def yD_pass : MethodName := ⟨"TracedCodeModel", "pass", "(I)V"⟩
abbrev bD_pass : ByteArray := prog_10_method_24_code
def yD_spread : MethodName := ⟨"TracedCodeModel", "spread", "(I)Z"⟩
abbrev bD_spread : ByteArray := prog_10_method_25_code
def yD_begin : MethodName := ⟨"TracedCodeModel", "begin", "()V"⟩
abbrev bD_begin : ByteArray := prog_10_method_34_code
def yD_kept : MethodName := ⟨"TracedCodeModel", "kept", "()I"⟩
abbrev bD_kept : ByteArray := prog_10_method_28_code
def yD_part : MethodName := ⟨"TracedCodeModel", "part", "(II)I"⟩
abbrev bD_part : ByteArray := prog_10_method_29_code
def yD_where : MethodName := ⟨"TracedCodeModel", "where", "(II)I"⟩
abbrev bD_where : ByteArray := prog_10_method_32_code
def yD_placeOf : MethodName := ⟨"TracedCodeModel", "placeOf", "(II)I"⟩
abbrev bD_placeOf : ByteArray := prog_10_method_31_code
def yD_isConstant : MethodName := ⟨"TracedCodeModel", "isConstant", "(I)Z"⟩
abbrev bD_isConstant : ByteArray := prog_10_method_30_code
def yD_carriers : MethodName := ⟨"TracedCodeModel", "carriers", "(II)I"⟩
abbrev bD_carriers : ByteArray := prog_10_method_33_code
def yD_restart : MethodName := ⟨"TracedCodeModel", "restart", "()V"⟩
abbrev bD_restart : ByteArray := prog_10_method_35_code
def yD_step : MethodName := ⟨"TracedCodeModel", "step", "()I"⟩
abbrev bD_step : ByteArray := prog_10_method_37_code
def yD_does : MethodName := ⟨"TracedCodeModel", "does", "(II)Z"⟩
abbrev bD_does : ByteArray := prog_10_method_36_code
def yD_line : MethodName := ⟨"TracedCodeModel", "line", "()I"⟩
abbrev bD_line : ByteArray := prog_10_method_38_code
def yD_register : MethodName := ⟨"TracedCodeModel", "register", "(IZ)I"⟩
abbrev bD_register : ByteArray := prog_10_method_39_code
def yD_output : MethodName := ⟨"TracedCodeModel", "output", "(IZ)I"⟩
abbrev bD_output : ByteArray := prog_10_method_40_code
def yD_value : MethodName := ⟨"TracedCodeModel", "value", "(I)I"⟩
abbrev bD_value : ByteArray := prog_10_method_41_code
def yD_read : MethodName := ⟨"TracedCodeModel", "read", "(I)I"⟩
abbrev bD_read : ByteArray := prog_10_method_42_code
theorem wm_0 : Cond.initialized "TracedCodeLaw" ∈ tw := tw_of 0 (by decide +kernel) (by decide +kernel)
theorem wm_1 : Cond.initialized "TracedCode" ∈ tw := tw_of 1 (by decide +kernel) (by decide +kernel)
theorem wm_2 : Cond.initialized "TracedCode$Code" ∈ tw := tw_of 2 (by decide +kernel) (by decide +kernel)
theorem wm_3 : Cond.initialized "TracedCode$Shortener" ∈ tw := tw_of 3 (by decide +kernel) (by decide +kernel)
theorem wm_4 : Cond.initialized "TracedCode$Facts" ∈ tw := tw_of 4 (by decide +kernel) (by decide +kernel)
theorem wm_5 : Cond.initialized "TracedCode$Copies" ∈ tw := tw_of 5 (by decide +kernel) (by decide +kernel)
theorem wm_6 : Cond.initialized "TracedCode$Carriers" ∈ tw := tw_of 6 (by decide +kernel) (by decide +kernel)
theorem wm_7 : Cond.initialized "TracedCode$Run" ∈ tw := tw_of 7 (by decide +kernel) (by decide +kernel)
theorem wm_8 : Cond.initialized "TracedCode$Machine" ∈ tw := tw_of 8 (by decide +kernel) (by decide +kernel)
theorem wm_9 : Cond.initialized "TracedCodeModel" ∈ tw := tw_of 9 (by decide +kernel) (by decide +kernel)
theorem wm_10 : Cond.initialized "java/lang/Throwable" ∈ tw := tw_of 10 (by decide +kernel) (by decide +kernel)
theorem wm_11 : Cond.initialized "java/lang/Exception" ∈ tw := tw_of 11 (by decide +kernel) (by decide +kernel)
theorem wm_12 : Cond.initialized "java/lang/RuntimeException" ∈ tw := tw_of 12 (by decide +kernel) (by decide +kernel)
theorem wm_13 : Cond.initialized "java/lang/IllegalArgumentException" ∈ tw := tw_of 13 (by decide +kernel) (by decide +kernel)
theorem wm_14 : Cond.initialized "java/lang/IllegalStateException" ∈ tw := tw_of 14 (by decide +kernel) (by decide +kernel)
theorem wm_15 : Cond.initialized "java/lang/System" ∈ tw := tw_of 15 (by decide +kernel) (by decide +kernel)
theorem wm_16 : Cond.initialized "java/util/Arrays" ∈ tw := tw_of 16 (by decide +kernel) (by decide +kernel)
theorem wm_17 : Cond.initialized "java/lang/IndexOutOfBoundsException" ∈ tw := tw_of 17 (by decide +kernel) (by decide +kernel)
theorem wm_18 : Cond.initialized "java/util/NoSuchElementException" ∈ tw := tw_of 18 (by decide +kernel) (by decide +kernel)
theorem wm_19 : Cond.classLink "TracedCodeLaw" 8 "TracedCode" ∈ tw := tw_of 19 (by decide +kernel) (by decide +kernel)
theorem wm_20 : Cond.instantiable "TracedCode" 6 ∈ tw := tw_of 20 (by decide +kernel) (by decide +kernel)
theorem wm_21 : Cond.methodLink "TracedCodeLaw" 73 yT_init ∈ tw := tw_of 21 (by decide +kernel) (by decide +kernel)
theorem wm_22 : Cond.instanceMethod yT_init ∈ tw := tw_of 22 (by decide +kernel) (by decide +kernel)
theorem wm_23 : Cond.code yT_init prog_1_method_1_code 1 (none : Option Jvm.ClassFile.FieldType) ∈ tw := tw_of 23 (by decide +kernel) (by decide +kernel)
theorem wm_24 : Cond.methodLink "TracedCode" 3 (⟨"java/lang/Object", "<init>", "()V"⟩ : MethodName) ∈ tw := tw_of 24 (by decide +kernel) (by decide +kernel)
theorem wm_25 : Cond.instanceMethod (⟨"java/lang/Object", "<init>", "()V"⟩ : MethodName) ∈ tw := tw_of 25 (by decide +kernel) (by decide +kernel)
theorem wm_26 : Cond.code (⟨"java/lang/Object", "<init>", "()V"⟩ : MethodName) object_method_1_code 1 (none : Option Jvm.ClassFile.FieldType) ∈ tw := tw_of 26 (by decide +kernel) (by decide +kernel)
theorem wm_27 : Cond.classLink "TracedCode" 9 "TracedCode$Code" ∈ tw := tw_of 27 (by decide +kernel) (by decide +kernel)
theorem wm_28 : Cond.instantiable "TracedCode$Code" 2 ∈ tw := tw_of 28 (by decide +kernel) (by decide +kernel)
theorem wm_30 : Cond.instanceMethod yC_init ∈ tw := tw_of 30 (by decide +kernel) (by decide +kernel)
theorem wm_31 : Cond.code yC_init prog_3_method_1_code 1 (none : Option Jvm.ClassFile.FieldType) ∈ tw := tw_of 31 (by decide +kernel) (by decide +kernel)
theorem wm_32 : Cond.methodLink "TracedCode$Code" 3 (⟨"java/lang/Object", "<init>", "()V"⟩ : MethodName) ∈ tw := tw_of 32 (by decide +kernel) (by decide +kernel)
theorem wm_33 : Cond.classLink "TracedCode$Code" 9 "[[I" ∈ tw := tw_of 33 (by decide +kernel) (by decide +kernel)
theorem wm_35 : Cond.fieldLink "TracedCode$Code" 11 "TracedCode$Code" "numbers" "[[I" ∈ tw := tw_of 35 (by decide +kernel) (by decide +kernel)
theorem wm_36 : Cond.fieldLink "TracedCode$Code" 16 "TracedCode$Code" "size" "I" ∈ tw := tw_of 36 (by decide +kernel) (by decide +kernel)
theorem wm_37 : Cond.laysFinal "TracedCode$Code" "TracedCode$Code" "numbers" "[[I" ∈ tw := tw_of 37 (by decide +kernel) (by decide +kernel)
theorem wm_39 : Cond.lays "TracedCode$Code" "TracedCode$Code" "size" "I" ∈ tw := tw_of 39 (by decide +kernel) (by decide +kernel)
theorem wm_42 : Cond.arrayClass .int ∈ tw := tw_of 42 (by decide +kernel) (by decide +kernel)
theorem wm_43 : Cond.classLink "TracedCode" 19 "TracedCode$Shortener" ∈ tw := tw_of 43 (by decide +kernel) (by decide +kernel)
theorem wm_44 : Cond.instantiable "TracedCode$Shortener" 2 ∈ tw := tw_of 44 (by decide +kernel) (by decide +kernel)
theorem wm_46 : Cond.instanceMethod yS_init ∈ tw := tw_of 46 (by decide +kernel) (by decide +kernel)
theorem wm_47 : Cond.code yS_init prog_8_method_1_code 1 (none : Option Jvm.ClassFile.FieldType) ∈ tw := tw_of 47 (by decide +kernel) (by decide +kernel)
theorem wm_48 : Cond.methodLink "TracedCode$Shortener" 3 (⟨"java/lang/Object", "<init>", "()V"⟩ : MethodName) ∈ tw := tw_of 48 (by decide +kernel) (by decide +kernel)
theorem wm_49 : Cond.classLink "TracedCode$Shortener" 9 "TracedCode$Copies" ∈ tw := tw_of 49 (by decide +kernel) (by decide +kernel)
theorem wm_50 : Cond.instantiable "TracedCode$Copies" 2 ∈ tw := tw_of 50 (by decide +kernel) (by decide +kernel)
theorem wm_52 : Cond.instanceMethod yP_init ∈ tw := tw_of 52 (by decide +kernel) (by decide +kernel)
theorem wm_53 : Cond.code yP_init prog_4_method_1_code 1 (none : Option Jvm.ClassFile.FieldType) ∈ tw := tw_of 53 (by decide +kernel) (by decide +kernel)
theorem wm_55 : Cond.instanceMethod yF_init ∈ tw := tw_of 55 (by decide +kernel) (by decide +kernel)
theorem wm_56 : Cond.code yF_init prog_5_method_1_code 1 (none : Option Jvm.ClassFile.FieldType) ∈ tw := tw_of 56 (by decide +kernel) (by decide +kernel)
theorem wm_57 : Cond.methodLink "TracedCode$Facts" 3 (⟨"java/lang/Object", "<init>", "()V"⟩ : MethodName) ∈ tw := tw_of 57 (by decide +kernel) (by decide +kernel)
theorem wm_58 : Cond.classLink "TracedCode$Copies" 9 "[[I" ∈ tw := tw_of 58 (by decide +kernel) (by decide +kernel)
theorem wm_59 : Cond.fieldLink "TracedCode$Copies" 11 "TracedCode$Copies" "origins" "[[I" ∈ tw := tw_of 59 (by decide +kernel) (by decide +kernel)
theorem wm_60 : Cond.fieldLink "TracedCode$Copies" 16 "TracedCode$Copies" "behind" "[I" ∈ tw := tw_of 60 (by decide +kernel) (by decide +kernel)
theorem wm_61 : Cond.laysFinal "TracedCode$Copies" "TracedCode$Copies" "origins" "[[I" ∈ tw := tw_of 61 (by decide +kernel) (by decide +kernel)
theorem wm_63 : Cond.laysFinal "TracedCode$Copies" "TracedCode$Copies" "behind" "[I" ∈ tw := tw_of 63 (by decide +kernel) (by decide +kernel)
theorem wm_66 : Cond.fieldLink "TracedCode$Shortener" 12 "TracedCode$Shortener" "copies" "LTracedCode$Copies;" ∈ tw := tw_of 66 (by decide +kernel) (by decide +kernel)
theorem wm_67 : Cond.fieldLink "TracedCode$Shortener" 18 "TracedCode$Shortener" "live" "[I" ∈ tw := tw_of 67 (by decide +kernel) (by decide +kernel)
theorem wm_68 : Cond.laysFinal "TracedCode$Shortener" "TracedCode$Shortener" "copies" "LTracedCode$Copies;" ∈ tw := tw_of 68 (by decide +kernel) (by decide +kernel)
theorem wm_70 : Cond.laysFinal "TracedCode$Shortener" "TracedCode$Shortener" "live" "[I" ∈ tw := tw_of 70 (by decide +kernel) (by decide +kernel)
theorem wm_73 : Cond.classLink "TracedCode" 26 "TracedCode$Carriers" ∈ tw := tw_of 73 (by decide +kernel) (by decide +kernel)
theorem wm_74 : Cond.instantiable "TracedCode$Carriers" 4 ∈ tw := tw_of 74 (by decide +kernel) (by decide +kernel)
theorem wm_76 : Cond.instanceMethod yK_init ∈ tw := tw_of 76 (by decide +kernel) (by decide +kernel)
theorem wm_77 : Cond.code yK_init prog_2_method_1_code 1 (none : Option Jvm.ClassFile.FieldType) ∈ tw := tw_of 77 (by decide +kernel) (by decide +kernel)
theorem wm_79 : Cond.classLink "TracedCode$Carriers" 11 "[[I" ∈ tw := tw_of 79 (by decide +kernel) (by decide +kernel)
theorem wm_80 : Cond.fieldLink "TracedCode$Carriers" 13 "TracedCode$Carriers" "marks" "[[I" ∈ tw := tw_of 80 (by decide +kernel) (by decide +kernel)
theorem wm_81 : Cond.fieldLink "TracedCode$Carriers" 16 "TracedCode$Carriers" "constants" "[[I" ∈ tw := tw_of 81 (by decide +kernel) (by decide +kernel)
theorem wm_82 : Cond.fieldLink "TracedCode$Carriers" 19 "TracedCode$Carriers" "marksBehind" "[I" ∈ tw := tw_of 82 (by decide +kernel) (by decide +kernel)
theorem wm_83 : Cond.fieldLink "TracedCode$Carriers" 23 "TracedCode$Carriers" "constantsBehind" "[I" ∈ tw := tw_of 83 (by decide +kernel) (by decide +kernel)
theorem wm_84 : Cond.laysFinal "TracedCode$Carriers" "TracedCode$Carriers" "marks" "[[I" ∈ tw := tw_of 84 (by decide +kernel) (by decide +kernel)
theorem wm_86 : Cond.laysFinal "TracedCode$Carriers" "TracedCode$Carriers" "constants" "[[I" ∈ tw := tw_of 86 (by decide +kernel) (by decide +kernel)
theorem wm_88 : Cond.laysFinal "TracedCode$Carriers" "TracedCode$Carriers" "marksBehind" "[I" ∈ tw := tw_of 88 (by decide +kernel) (by decide +kernel)
theorem wm_90 : Cond.laysFinal "TracedCode$Carriers" "TracedCode$Carriers" "constantsBehind" "[I" ∈ tw := tw_of 90 (by decide +kernel) (by decide +kernel)
theorem wm_93 : Cond.classLink "TracedCode" 33 "TracedCode$Run" ∈ tw := tw_of 93 (by decide +kernel) (by decide +kernel)
theorem wm_94 : Cond.instantiable "TracedCode$Run" 6 ∈ tw := tw_of 94 (by decide +kernel) (by decide +kernel)
theorem wm_96 : Cond.instanceMethod yR_init ∈ tw := tw_of 96 (by decide +kernel) (by decide +kernel)
theorem wm_97 : Cond.code yR_init prog_7_method_1_code 1 (none : Option Jvm.ClassFile.FieldType) ∈ tw := tw_of 97 (by decide +kernel) (by decide +kernel)
theorem wm_98 : Cond.methodLink "TracedCode$Run" 3 (⟨"java/lang/Object", "<init>", "()V"⟩ : MethodName) ∈ tw := tw_of 98 (by decide +kernel) (by decide +kernel)
theorem wm_99 : Cond.classLink "TracedCode$Run" 9 "TracedCode$Machine" ∈ tw := tw_of 99 (by decide +kernel) (by decide +kernel)
theorem wm_100 : Cond.instantiable "TracedCode$Machine" 3 ∈ tw := tw_of 100 (by decide +kernel) (by decide +kernel)
theorem wm_102 : Cond.instanceMethod yM_init ∈ tw := tw_of 102 (by decide +kernel) (by decide +kernel)
theorem wm_103 : Cond.code yM_init prog_6_method_1_code 1 (none : Option Jvm.ClassFile.FieldType) ∈ tw := tw_of 103 (by decide +kernel) (by decide +kernel)
theorem wm_104 : Cond.methodLink "TracedCode$Machine" 3 (⟨"java/lang/Object", "<init>", "()V"⟩ : MethodName) ∈ tw := tw_of 104 (by decide +kernel) (by decide +kernel)
theorem wm_105 : Cond.fieldLink "TracedCode$Machine" 9 "TracedCode$Machine" "contents" "[I" ∈ tw := tw_of 105 (by decide +kernel) (by decide +kernel)
theorem wm_106 : Cond.fieldLink "TracedCode$Machine" 15 "TracedCode$Machine" "outputs" "[I" ∈ tw := tw_of 106 (by decide +kernel) (by decide +kernel)
theorem wm_107 : Cond.fieldLink "TracedCode$Machine" 18 "TracedCode$Machine" "outputCount" "I" ∈ tw := tw_of 107 (by decide +kernel) (by decide +kernel)
theorem wm_108 : Cond.laysFinal "TracedCode$Machine" "TracedCode$Machine" "contents" "[I" ∈ tw := tw_of 108 (by decide +kernel) (by decide +kernel)
theorem wm_110 : Cond.laysFinal "TracedCode$Machine" "TracedCode$Machine" "outputs" "[I" ∈ tw := tw_of 110 (by decide +kernel) (by decide +kernel)
theorem wm_112 : Cond.lays "TracedCode$Machine" "TracedCode$Machine" "outputCount" "I" ∈ tw := tw_of 112 (by decide +kernel) (by decide +kernel)
theorem wm_115 : Cond.fieldLink "TracedCode$Run" 12 "TracedCode$Run" "whole" "LTracedCode$Machine;" ∈ tw := tw_of 115 (by decide +kernel) (by decide +kernel)
theorem wm_116 : Cond.fieldLink "TracedCode$Run" 18 "TracedCode$Run" "brief" "LTracedCode$Machine;" ∈ tw := tw_of 116 (by decide +kernel) (by decide +kernel)
theorem wm_117 : Cond.fieldLink "TracedCode$Run" 21 "TracedCode$Run" "values" "[I" ∈ tw := tw_of 117 (by decide +kernel) (by decide +kernel)
theorem wm_118 : Cond.fieldLink "TracedCode$Run" 25 "TracedCode$Run" "valued" "[Z" ∈ tw := tw_of 118 (by decide +kernel) (by decide +kernel)
theorem wm_119 : Cond.fieldLink "TracedCode$Run" 29 "TracedCode$Run" "position" "I" ∈ tw := tw_of 119 (by decide +kernel) (by decide +kernel)
theorem wm_120 : Cond.fieldLink "TracedCode$Run" 33 "TracedCode$Run" "steps" "I" ∈ tw := tw_of 120 (by decide +kernel) (by decide +kernel)
theorem wm_121 : Cond.laysFinal "TracedCode$Run" "TracedCode$Run" "whole" "LTracedCode$Machine;" ∈ tw := tw_of 121 (by decide +kernel) (by decide +kernel)
theorem wm_123 : Cond.laysFinal "TracedCode$Run" "TracedCode$Run" "brief" "LTracedCode$Machine;" ∈ tw := tw_of 123 (by decide +kernel) (by decide +kernel)
theorem wm_125 : Cond.laysFinal "TracedCode$Run" "TracedCode$Run" "values" "[I" ∈ tw := tw_of 125 (by decide +kernel) (by decide +kernel)
theorem wm_127 : Cond.laysFinal "TracedCode$Run" "TracedCode$Run" "valued" "[Z" ∈ tw := tw_of 127 (by decide +kernel) (by decide +kernel)
theorem wm_129 : Cond.lays "TracedCode$Run" "TracedCode$Run" "position" "I" ∈ tw := tw_of 129 (by decide +kernel) (by decide +kernel)
theorem wm_131 : Cond.lays "TracedCode$Run" "TracedCode$Run" "steps" "I" ∈ tw := tw_of 131 (by decide +kernel) (by decide +kernel)
theorem wm_134 : Cond.arrayClass .boolean ∈ tw := tw_of 134 (by decide +kernel) (by decide +kernel)
theorem wm_135 : Cond.fieldLink "TracedCode" 12 "TracedCode" "program" "LTracedCode$Code;" ∈ tw := tw_of 135 (by decide +kernel) (by decide +kernel)
theorem wm_136 : Cond.fieldLink "TracedCode" 16 "TracedCode" "shortProgram" "LTracedCode$Code;" ∈ tw := tw_of 136 (by decide +kernel) (by decide +kernel)
theorem wm_137 : Cond.fieldLink "TracedCode" 22 "TracedCode" "shortener" "LTracedCode$Shortener;" ∈ tw := tw_of 137 (by decide +kernel) (by decide +kernel)
theorem wm_138 : Cond.fieldLink "TracedCode" 29 "TracedCode" "carrierLists" "LTracedCode$Carriers;" ∈ tw := tw_of 138 (by decide +kernel) (by decide +kernel)
theorem wm_139 : Cond.fieldLink "TracedCode" 36 "TracedCode" "run" "LTracedCode$Run;" ∈ tw := tw_of 139 (by decide +kernel) (by decide +kernel)
theorem wm_140 : Cond.fieldLink "TracedCode" 40 "TracedCode" "shortened" "Z" ∈ tw := tw_of 140 (by decide +kernel) (by decide +kernel)
theorem wm_141 : Cond.laysFinal "TracedCode" "TracedCode" "program" "LTracedCode$Code;" ∈ tw := tw_of 141 (by decide +kernel) (by decide +kernel)
theorem wm_143 : Cond.laysFinal "TracedCode" "TracedCode" "shortProgram" "LTracedCode$Code;" ∈ tw := tw_of 143 (by decide +kernel) (by decide +kernel)
theorem wm_145 : Cond.laysFinal "TracedCode" "TracedCode" "shortener" "LTracedCode$Shortener;" ∈ tw := tw_of 145 (by decide +kernel) (by decide +kernel)
theorem wm_147 : Cond.laysFinal "TracedCode" "TracedCode" "carrierLists" "LTracedCode$Carriers;" ∈ tw := tw_of 147 (by decide +kernel) (by decide +kernel)
theorem wm_149 : Cond.laysFinal "TracedCode" "TracedCode" "run" "LTracedCode$Run;" ∈ tw := tw_of 149 (by decide +kernel) (by decide +kernel)
theorem wm_151 : Cond.lays "TracedCode" "TracedCode" "shortened" "Z" ∈ tw := tw_of 151 (by decide +kernel) (by decide +kernel)
theorem wm_154 : Cond.methodLink "TracedCodeLaw" 103 yT_clear ∈ tw := tw_of 154 (by decide +kernel) (by decide +kernel)
theorem wm_155 : Cond.instanceMethod yT_clear ∈ tw := tw_of 155 (by decide +kernel) (by decide +kernel)
theorem wm_156 : Cond.selects "TracedCode" yT_clear yT_clear ∈ tw := tw_of 156 (by decide +kernel) (by decide +kernel)
theorem wm_157 : Cond.code yT_clear prog_1_method_8_code 1 (none : Option Jvm.ClassFile.FieldType) ∈ tw := tw_of 157 (by decide +kernel) (by decide +kernel)
theorem wm_158 : Cond.methodLink "TracedCode" 63 yC_dropLines ∈ tw := tw_of 158 (by decide +kernel) (by decide +kernel)
theorem wm_159 : Cond.instanceMethod yC_dropLines ∈ tw := tw_of 159 (by decide +kernel) (by decide +kernel)
theorem wm_160 : Cond.selects "TracedCode$Code" yC_dropLines yC_dropLines ∈ tw := tw_of 160 (by decide +kernel) (by decide +kernel)
theorem wm_161 : Cond.code yC_dropLines prog_3_method_6_code 1 (none : Option Jvm.ClassFile.FieldType) ∈ tw := tw_of 161 (by decide +kernel) (by decide +kernel)
theorem wm_162 : Cond.methodLink "TracedCodeLaw" 107 yT_shorten ∈ tw := tw_of 162 (by decide +kernel) (by decide +kernel)
theorem wm_163 : Cond.instanceMethod yT_shorten ∈ tw := tw_of 163 (by decide +kernel) (by decide +kernel)
theorem wm_164 : Cond.selects "TracedCode" yT_shorten yT_shorten ∈ tw := tw_of 164 (by decide +kernel) (by decide +kernel)
theorem wm_165 : Cond.code yT_shorten prog_1_method_9_code 2 (some .int) ∈ tw := tw_of 165 (by decide +kernel) (by decide +kernel)
theorem wm_166 : Cond.methodLink "TracedCode" 66 yC_takeLines ∈ tw := tw_of 166 (by decide +kernel) (by decide +kernel)
theorem wm_167 : Cond.instanceMethod yC_takeLines ∈ tw := tw_of 167 (by decide +kernel) (by decide +kernel)
theorem wm_168 : Cond.selects "TracedCode$Code" yC_takeLines yC_takeLines ∈ tw := tw_of 168 (by decide +kernel) (by decide +kernel)
theorem wm_169 : Cond.code yC_takeLines prog_3_method_7_code 3 (none : Option Jvm.ClassFile.FieldType) ∈ tw := tw_of 169 (by decide +kernel) (by decide +kernel)
theorem wm_170 : Cond.methodLink "TracedCode$Code" 20 (⟨"java/lang/System", "arraycopy", "(Ljava/lang/Object;ILjava/lang/Object;II)V"⟩ : MethodName) ∈ tw := tw_of 170 (by decide +kernel) (by decide +kernel)
theorem wm_171 : Cond.static (⟨"java/lang/System", "arraycopy", "(Ljava/lang/Object;ILjava/lang/Object;II)V"⟩ : MethodName) ∈ tw := tw_of 171 (by decide +kernel) (by decide +kernel)
theorem wm_173 : Cond.methodLink "TracedCode" 70 yS_changingRounds ∈ tw := tw_of 173 (by decide +kernel) (by decide +kernel)
theorem wm_174 : Cond.instanceMethod yS_changingRounds ∈ tw := tw_of 174 (by decide +kernel) (by decide +kernel)
theorem wm_175 : Cond.selects "TracedCode$Shortener" yS_changingRounds yS_changingRounds ∈ tw := tw_of 175 (by decide +kernel) (by decide +kernel)
theorem wm_176 : Cond.code yS_changingRounds prog_8_method_2_code 6 (some .int) ∈ tw := tw_of 176 (by decide +kernel) (by decide +kernel)
theorem wm_177 : Cond.constant "TracedCode$Shortener" 22 1000000 ∈ tw := tw_of 177 (by decide +kernel) (by decide +kernel)
theorem wm_178 : Cond.methodLink "TracedCode$Shortener" 23 yS_passCopiesOn ∈ tw := tw_of 178 (by decide +kernel) (by decide +kernel)
theorem wm_180 : Cond.instanceMethod yS_passCopiesOn ∈ tw := tw_of 180 (by decide +kernel) (by decide +kernel)
theorem wm_181 : Cond.code yS_passCopiesOn prog_8_method_3_code 5 (some .boolean) ∈ tw := tw_of 181 (by decide +kernel) (by decide +kernel)
theorem wm_182 : Cond.methodLink "TracedCode$Shortener" 30 yP_find ∈ tw := tw_of 182 (by decide +kernel) (by decide +kernel)
theorem wm_183 : Cond.instanceMethod yP_find ∈ tw := tw_of 183 (by decide +kernel) (by decide +kernel)
theorem wm_184 : Cond.selects "TracedCode$Copies" yP_find yP_find ∈ tw := tw_of 184 (by decide +kernel) (by decide +kernel)
theorem wm_185 : Cond.code yP_find prog_4_method_2_code 3 (none : Option Jvm.ClassFile.FieldType) ∈ tw := tw_of 185 (by decide +kernel) (by decide +kernel)
theorem wm_186 : Cond.methodLink "TracedCode$Copies" 20 (⟨"TracedCode$Copies", "settle", "(LTracedCode$Code;LTracedCode$Code;)V"⟩ : MethodName) ∈ tw := tw_of 186 (by decide +kernel) (by decide +kernel)
theorem wm_187 : Cond.sameMethod "TracedCode$Copies" "TracedCode$Facts" "settle" "(LTracedCode$Code;LTracedCode$Code;)V" ∈ tw := tw_of 187 (by decide +kernel) (by decide +kernel)
theorem wm_189 : Cond.selects "TracedCode$Copies" (⟨"TracedCode$Copies", "settle", "(LTracedCode$Code;LTracedCode$Code;)V"⟩ : MethodName) yF_settle ∈ tw := tw_of 189 (by decide +kernel) (by decide +kernel)
theorem wm_190 : Cond.instanceMethod yF_settle ∈ tw := tw_of 190 (by decide +kernel) (by decide +kernel)
theorem wm_191 : Cond.code yF_settle prog_5_method_5_code 6 (none : Option Jvm.ClassFile.FieldType) ∈ tw := tw_of 191 (by decide +kernel) (by decide +kernel)
theorem wm_192 : Cond.methodLink "TracedCode$Facts" 9 yC_size ∈ tw := tw_of 192 (by decide +kernel) (by decide +kernel)
theorem wm_193 : Cond.instanceMethod yC_size ∈ tw := tw_of 193 (by decide +kernel) (by decide +kernel)
theorem wm_194 : Cond.selects "TracedCode$Code" yC_size yC_size ∈ tw := tw_of 194 (by decide +kernel) (by decide +kernel)
theorem wm_195 : Cond.code yC_size prog_3_method_2_code 1 (some .int) ∈ tw := tw_of 195 (by decide +kernel) (by decide +kernel)
theorem wm_196 : Cond.methodLink "TracedCode$Facts" 15 (⟨"TracedCode$Facts", "follow", "(LTracedCode$Code;LTracedCode$Code;I)V"⟩ : MethodName) ∈ tw := tw_of 196 (by decide +kernel) (by decide +kernel)
theorem wm_198 : Cond.sameMethod "TracedCode$Facts" "TracedCode$Facts" "follow" "(LTracedCode$Code;LTracedCode$Code;I)V" ∈ tw := tw_of 198 (by decide +kernel) (by decide +kernel)
theorem wm_199 : Cond.selects "TracedCode$Carriers" (⟨"TracedCode$Facts", "follow", "(LTracedCode$Code;LTracedCode$Code;I)V"⟩ : MethodName) yK_follow ∈ tw := tw_of 199 (by decide +kernel) (by decide +kernel)
theorem wm_200 : Cond.instanceMethod yK_follow ∈ tw := tw_of 200 (by decide +kernel) (by decide +kernel)
theorem wm_201 : Cond.code yK_follow prog_2_method_6_code 7 (none : Option Jvm.ClassFile.FieldType) ∈ tw := tw_of 201 (by decide +kernel) (by decide +kernel)
theorem wm_202 : Cond.methodLink "TracedCode$Carriers" 30 yK_behindShortLine ∈ tw := tw_of 202 (by decide +kernel) (by decide +kernel)
theorem wm_203 : Cond.static yK_behindShortLine ∈ tw := tw_of 203 (by decide +kernel) (by decide +kernel)
theorem wm_204 : Cond.code yK_behindShortLine prog_2_method_7_code 4 (some .int) ∈ tw := tw_of 204 (by decide +kernel) (by decide +kernel)
theorem wm_205 : Cond.methodLink "TracedCode$Carriers" 48 yC_written ∈ tw := tw_of 205 (by decide +kernel) (by decide +kernel)
theorem wm_206 : Cond.instanceMethod yC_written ∈ tw := tw_of 206 (by decide +kernel) (by decide +kernel)
theorem wm_207 : Cond.selects "TracedCode$Code" yC_written yC_written ∈ tw := tw_of 207 (by decide +kernel) (by decide +kernel)
theorem wm_208 : Cond.code yC_written prog_3_method_13_code 3 (some .int) ∈ tw := tw_of 208 (by decide +kernel) (by decide +kernel)
theorem wm_209 : Cond.methodLink "TracedCode$Carriers" 44 yC_kind ∈ tw := tw_of 209 (by decide +kernel) (by decide +kernel)
theorem wm_210 : Cond.instanceMethod yC_kind ∈ tw := tw_of 210 (by decide +kernel) (by decide +kernel)
theorem wm_211 : Cond.selects "TracedCode$Code" yC_kind yC_kind ∈ tw := tw_of 211 (by decide +kernel) (by decide +kernel)
theorem wm_212 : Cond.code yC_kind prog_3_method_4_code 2 (some .int) ∈ tw := tw_of 212 (by decide +kernel) (by decide +kernel)
theorem wm_213 : Cond.methodLink "TracedCode$Carriers" 34 yC_number ∈ tw := tw_of 213 (by decide +kernel) (by decide +kernel)
theorem wm_214 : Cond.instanceMethod yC_number ∈ tw := tw_of 214 (by decide +kernel) (by decide +kernel)
theorem wm_215 : Cond.selects "TracedCode$Code" yC_number yC_number ∈ tw := tw_of 215 (by decide +kernel) (by decide +kernel)
theorem wm_216 : Cond.code yC_number prog_3_method_3_code 3 (some .int) ∈ tw := tw_of 216 (by decide +kernel) (by decide +kernel)
theorem wm_217 : Cond.methodLink "TracedCode$Carriers" 40 yC_isEmpty ∈ tw := tw_of 217 (by decide +kernel) (by decide +kernel)
theorem wm_218 : Cond.instanceMethod yC_isEmpty ∈ tw := tw_of 218 (by decide +kernel) (by decide +kernel)
theorem wm_219 : Cond.selects "TracedCode$Code" yC_isEmpty yC_isEmpty ∈ tw := tw_of 219 (by decide +kernel) (by decide +kernel)
theorem wm_220 : Cond.code yC_isEmpty prog_3_method_9_code 2 (some .boolean) ∈ tw := tw_of 220 (by decide +kernel) (by decide +kernel)
theorem wm_221 : Cond.selects "TracedCode$Copies" (⟨"TracedCode$Facts", "follow", "(LTracedCode$Code;LTracedCode$Code;I)V"⟩ : MethodName) yP_follow ∈ tw := tw_of 221 (by decide +kernel) (by decide +kernel)
theorem wm_222 : Cond.instanceMethod yP_follow ∈ tw := tw_of 222 (by decide +kernel) (by decide +kernel)
theorem wm_223 : Cond.code yP_follow prog_4_method_4_code 7 (none : Option Jvm.ClassFile.FieldType) ∈ tw := tw_of 223 (by decide +kernel) (by decide +kernel)
theorem wm_224 : Cond.methodLink "TracedCode$Copies" 24 yC_written ∈ tw := tw_of 224 (by decide +kernel) (by decide +kernel)
theorem wm_225 : Cond.methodLink "TracedCode$Copies" 30 yC_kind ∈ tw := tw_of 225 (by decide +kernel) (by decide +kernel)
theorem wm_226 : Cond.methodLink "TracedCode$Copies" 33 yC_number ∈ tw := tw_of 226 (by decide +kernel) (by decide +kernel)
theorem wm_227 : Cond.methodLink "TracedCode$Facts" 21 (⟨"TracedCode$Facts", "put", "(I)V"⟩ : MethodName) ∈ tw := tw_of 227 (by decide +kernel) (by decide +kernel)
theorem wm_229 : Cond.sameMethod "TracedCode$Facts" "TracedCode$Facts" "put" "(I)V" ∈ tw := tw_of 229 (by decide +kernel) (by decide +kernel)
theorem wm_230 : Cond.selects "TracedCode$Carriers" (⟨"TracedCode$Facts", "put", "(I)V"⟩ : MethodName) yK_put ∈ tw := tw_of 230 (by decide +kernel) (by decide +kernel)
theorem wm_231 : Cond.instanceMethod yK_put ∈ tw := tw_of 231 (by decide +kernel) (by decide +kernel)
theorem wm_232 : Cond.code yK_put prog_2_method_8_code 3 (none : Option Jvm.ClassFile.FieldType) ∈ tw := tw_of 232 (by decide +kernel) (by decide +kernel)
theorem wm_233 : Cond.selects "TracedCode$Copies" (⟨"TracedCode$Facts", "put", "(I)V"⟩ : MethodName) yP_put ∈ tw := tw_of 233 (by decide +kernel) (by decide +kernel)
theorem wm_234 : Cond.instanceMethod yP_put ∈ tw := tw_of 234 (by decide +kernel) (by decide +kernel)
theorem wm_235 : Cond.code yP_put prog_4_method_5_code 3 (none : Option Jvm.ClassFile.FieldType) ∈ tw := tw_of 235 (by decide +kernel) (by decide +kernel)
theorem wm_236 : Cond.constant "TracedCode$Facts" 25 1000000 ∈ tw := tw_of 236 (by decide +kernel) (by decide +kernel)
theorem wm_237 : Cond.methodLink "TracedCode$Facts" 26 (⟨"TracedCode$Facts", "narrow", "(I)Z"⟩ : MethodName) ∈ tw := tw_of 237 (by decide +kernel) (by decide +kernel)
theorem wm_239 : Cond.sameMethod "TracedCode$Facts" "TracedCode$Facts" "narrow" "(I)Z" ∈ tw := tw_of 239 (by decide +kernel) (by decide +kernel)
theorem wm_240 : Cond.selects "TracedCode$Carriers" (⟨"TracedCode$Facts", "narrow", "(I)Z"⟩ : MethodName) yK_narrow ∈ tw := tw_of 240 (by decide +kernel) (by decide +kernel)
theorem wm_241 : Cond.instanceMethod yK_narrow ∈ tw := tw_of 241 (by decide +kernel) (by decide +kernel)
theorem wm_242 : Cond.code yK_narrow prog_2_method_9_code 5 (some .boolean) ∈ tw := tw_of 242 (by decide +kernel) (by decide +kernel)
theorem wm_243 : Cond.selects "TracedCode$Copies" (⟨"TracedCode$Facts", "narrow", "(I)Z"⟩ : MethodName) yP_narrow ∈ tw := tw_of 243 (by decide +kernel) (by decide +kernel)
theorem wm_244 : Cond.instanceMethod yP_narrow ∈ tw := tw_of 244 (by decide +kernel) (by decide +kernel)
theorem wm_245 : Cond.code yP_narrow prog_4_method_6_code 4 (some .boolean) ∈ tw := tw_of 245 (by decide +kernel) (by decide +kernel)
theorem wm_246 : Cond.methodLink "TracedCode$Facts" 30 yC_target ∈ tw := tw_of 246 (by decide +kernel) (by decide +kernel)
theorem wm_247 : Cond.instanceMethod yC_target ∈ tw := tw_of 247 (by decide +kernel) (by decide +kernel)
theorem wm_248 : Cond.selects "TracedCode$Code" yC_target yC_target ∈ tw := tw_of 248 (by decide +kernel) (by decide +kernel)
theorem wm_249 : Cond.code yC_target prog_3_method_15_code 2 (some .int) ∈ tw := tw_of 249 (by decide +kernel) (by decide +kernel)
theorem wm_250 : Cond.methodLink "TracedCode$Shortener" 34 yC_size ∈ tw := tw_of 250 (by decide +kernel) (by decide +kernel)
theorem wm_251 : Cond.methodLink "TracedCode$Shortener" 40 yS_passOneOn ∈ tw := tw_of 251 (by decide +kernel) (by decide +kernel)
theorem wm_253 : Cond.instanceMethod yS_passOneOn ∈ tw := tw_of 253 (by decide +kernel) (by decide +kernel)
theorem wm_254 : Cond.code yS_passOneOn prog_8_method_4_code 5 (some .boolean) ∈ tw := tw_of 254 (by decide +kernel) (by decide +kernel)
theorem wm_255 : Cond.methodLink "TracedCode$Shortener" 56 yC_readsAt ∈ tw := tw_of 255 (by decide +kernel) (by decide +kernel)
theorem wm_256 : Cond.instanceMethod yC_readsAt ∈ tw := tw_of 256 (by decide +kernel) (by decide +kernel)
theorem wm_257 : Cond.selects "TracedCode$Code" yC_readsAt yC_readsAt ∈ tw := tw_of 257 (by decide +kernel) (by decide +kernel)
theorem wm_258 : Cond.code yC_readsAt prog_3_method_11_code 4 (some .boolean) ∈ tw := tw_of 258 (by decide +kernel) (by decide +kernel)
theorem wm_259 : Cond.fieldLink "TracedCode$Code" 30 "TracedCode$Code" "READ_PLACES" "[I" ∈ tw := tw_of 259 (by decide +kernel) (by decide +kernel)
theorem wm_261 : Cond.methodLink "TracedCode$Shortener" 48 yC_number ∈ tw := tw_of 261 (by decide +kernel) (by decide +kernel)
theorem wm_262 : Cond.methodLink "TracedCode$Shortener" 60 yP_origin ∈ tw := tw_of 262 (by decide +kernel) (by decide +kernel)
theorem wm_263 : Cond.instanceMethod yP_origin ∈ tw := tw_of 263 (by decide +kernel) (by decide +kernel)
theorem wm_264 : Cond.selects "TracedCode$Copies" yP_origin yP_origin ∈ tw := tw_of 264 (by decide +kernel) (by decide +kernel)
theorem wm_265 : Cond.code yP_origin prog_4_method_3_code 3 (some .int) ∈ tw := tw_of 265 (by decide +kernel) (by decide +kernel)
theorem wm_266 : Cond.methodLink "TracedCode$Shortener" 63 yC_readInstead ∈ tw := tw_of 266 (by decide +kernel) (by decide +kernel)
theorem wm_267 : Cond.instanceMethod yC_readInstead ∈ tw := tw_of 267 (by decide +kernel) (by decide +kernel)
theorem wm_268 : Cond.selects "TracedCode$Code" yC_readInstead yC_readInstead ∈ tw := tw_of 268 (by decide +kernel) (by decide +kernel)
theorem wm_269 : Cond.code yC_readInstead prog_3_method_12_code 4 (none : Option Jvm.ClassFile.FieldType) ∈ tw := tw_of 269 (by decide +kernel) (by decide +kernel)
theorem wm_270 : Cond.methodLink "TracedCode$Shortener" 44 yC_kind ∈ tw := tw_of 270 (by decide +kernel) (by decide +kernel)
theorem wm_271 : Cond.methodLink "TracedCode$Shortener" 52 yC_makeEmpty ∈ tw := tw_of 271 (by decide +kernel) (by decide +kernel)
theorem wm_272 : Cond.instanceMethod yC_makeEmpty ∈ tw := tw_of 272 (by decide +kernel) (by decide +kernel)
theorem wm_273 : Cond.selects "TracedCode$Code" yC_makeEmpty yC_makeEmpty ∈ tw := tw_of 273 (by decide +kernel) (by decide +kernel)
theorem wm_274 : Cond.code yC_makeEmpty prog_3_method_8_code 2 (none : Option Jvm.ClassFile.FieldType) ∈ tw := tw_of 274 (by decide +kernel) (by decide +kernel)
theorem wm_275 : Cond.methodLink "TracedCode$Shortener" 27 yS_leaveOutDead ∈ tw := tw_of 275 (by decide +kernel) (by decide +kernel)
theorem wm_277 : Cond.instanceMethod yS_leaveOutDead ∈ tw := tw_of 277 (by decide +kernel) (by decide +kernel)
theorem wm_278 : Cond.code yS_leaveOutDead prog_8_method_5_code 5 (some .boolean) ∈ tw := tw_of 278 (by decide +kernel) (by decide +kernel)
theorem wm_279 : Cond.methodLink "TracedCode$Shortener" 67 yS_findLive ∈ tw := tw_of 279 (by decide +kernel) (by decide +kernel)
theorem wm_281 : Cond.instanceMethod yS_findLive ∈ tw := tw_of 281 (by decide +kernel) (by decide +kernel)
theorem wm_282 : Cond.code yS_findLive prog_8_method_6_code 6 (none : Option Jvm.ClassFile.FieldType) ∈ tw := tw_of 282 (by decide +kernel) (by decide +kernel)
theorem wm_283 : Cond.methodLink "TracedCode$Shortener" 77 yA_fill ∈ tw := tw_of 283 (by decide +kernel) (by decide +kernel)
theorem wm_284 : Cond.static yA_fill ∈ tw := tw_of 284 (by decide +kernel) (by decide +kernel)
theorem wm_285 : Cond.code yA_fill prog_18_method_103_code 4 (none : Option Jvm.ClassFile.FieldType) ∈ tw := tw_of 285 (by decide +kernel) (by decide +kernel)
theorem wm_286 : Cond.methodLink "TracedCode$Shortener" 83 yS_liveBefore ∈ tw := tw_of 286 (by decide +kernel) (by decide +kernel)
theorem wm_288 : Cond.instanceMethod yS_liveBefore ∈ tw := tw_of 288 (by decide +kernel) (by decide +kernel)
theorem wm_289 : Cond.code yS_liveBefore prog_8_method_7_code 5 (some .int) ∈ tw := tw_of 289 (by decide +kernel) (by decide +kernel)
theorem wm_290 : Cond.methodLink "TracedCode$Shortener" 70 yC_written ∈ tw := tw_of 290 (by decide +kernel) (by decide +kernel)
theorem wm_291 : Cond.methodLink "TracedCode$Shortener" 73 yS_liveBehind ∈ tw := tw_of 291 (by decide +kernel) (by decide +kernel)
theorem wm_293 : Cond.instanceMethod yS_liveBehind ∈ tw := tw_of 293 (by decide +kernel) (by decide +kernel)
theorem wm_294 : Cond.code yS_liveBehind prog_8_method_8_code 3 (some .int) ∈ tw := tw_of 294 (by decide +kernel) (by decide +kernel)
theorem wm_295 : Cond.methodLink "TracedCode$Shortener" 89 yC_target ∈ tw := tw_of 295 (by decide +kernel) (by decide +kernel)
theorem wm_296 : Cond.methodLink "TracedCode$Shortener" 86 yC_needed ∈ tw := tw_of 296 (by decide +kernel) (by decide +kernel)
theorem wm_297 : Cond.instanceMethod yC_needed ∈ tw := tw_of 297 (by decide +kernel) (by decide +kernel)
theorem wm_298 : Cond.selects "TracedCode$Code" yC_needed yC_needed ∈ tw := tw_of 298 (by decide +kernel) (by decide +kernel)
theorem wm_299 : Cond.code yC_needed prog_3_method_14_code 4 (some .int) ∈ tw := tw_of 299 (by decide +kernel) (by decide +kernel)
theorem wm_300 : Cond.methodLink "TracedCode$Code" 34 yC_readsAt ∈ tw := tw_of 300 (by decide +kernel) (by decide +kernel)
theorem wm_301 : Cond.methodLink "TracedCode" 74 yK_find ∈ tw := tw_of 301 (by decide +kernel) (by decide +kernel)
theorem wm_302 : Cond.instanceMethod yK_find ∈ tw := tw_of 302 (by decide +kernel) (by decide +kernel)
theorem wm_303 : Cond.selects "TracedCode$Carriers" yK_find yK_find ∈ tw := tw_of 303 (by decide +kernel) (by decide +kernel)
theorem wm_304 : Cond.code yK_find prog_2_method_2_code 4 (none : Option Jvm.ClassFile.FieldType) ∈ tw := tw_of 304 (by decide +kernel) (by decide +kernel)
theorem wm_305 : Cond.methodLink "TracedCode$Carriers" 26 (⟨"TracedCode$Carriers", "settle", "(LTracedCode$Code;LTracedCode$Code;)V"⟩ : MethodName) ∈ tw := tw_of 305 (by decide +kernel) (by decide +kernel)
theorem wm_306 : Cond.sameMethod "TracedCode$Carriers" "TracedCode$Facts" "settle" "(LTracedCode$Code;LTracedCode$Code;)V" ∈ tw := tw_of 306 (by decide +kernel) (by decide +kernel)
theorem wm_307 : Cond.selects "TracedCode$Carriers" (⟨"TracedCode$Carriers", "settle", "(LTracedCode$Code;LTracedCode$Code;)V"⟩ : MethodName) yF_settle ∈ tw := tw_of 307 (by decide +kernel) (by decide +kernel)
theorem wm_308 : Cond.methodLink "TracedCode" 78 yR_begin ∈ tw := tw_of 308 (by decide +kernel) (by decide +kernel)
theorem wm_309 : Cond.instanceMethod yR_begin ∈ tw := tw_of 309 (by decide +kernel) (by decide +kernel)
theorem wm_310 : Cond.selects "TracedCode$Run" yR_begin yR_begin ∈ tw := tw_of 310 (by decide +kernel) (by decide +kernel)
theorem wm_311 : Cond.code yR_begin prog_7_method_2_code 2 (none : Option Jvm.ClassFile.FieldType) ∈ tw := tw_of 311 (by decide +kernel) (by decide +kernel)
theorem wm_312 : Cond.methodLink "TracedCode$Run" 36 yM_begin ∈ tw := tw_of 312 (by decide +kernel) (by decide +kernel)
theorem wm_313 : Cond.instanceMethod yM_begin ∈ tw := tw_of 313 (by decide +kernel) (by decide +kernel)
theorem wm_314 : Cond.selects "TracedCode$Machine" yM_begin yM_begin ∈ tw := tw_of 314 (by decide +kernel) (by decide +kernel)
theorem wm_315 : Cond.code yM_begin prog_6_method_2_code 1 (none : Option Jvm.ClassFile.FieldType) ∈ tw := tw_of 315 (by decide +kernel) (by decide +kernel)
theorem wm_316 : Cond.methodLink "TracedCode$Machine" 22 yA_fill ∈ tw := tw_of 316 (by decide +kernel) (by decide +kernel)
theorem wm_317 : Cond.methodLink "TracedCodeLaw" 77 yL_set ∈ tw := tw_of 317 (by decide +kernel) (by decide +kernel)
theorem wm_318 : Cond.static yL_set ∈ tw := tw_of 318 (by decide +kernel) (by decide +kernel)
theorem wm_319 : Cond.codeWith yL_set method_3_code 5 (some .int) [(0, 10, 13, 13), (0, 10, 17, 15)] ∈ tw := tw_of 319 (by decide +kernel) (by decide +kernel)
theorem wm_320 : Cond.classLink "TracedCodeLaw" 13 "java/lang/IllegalArgumentException" ∈ tw := tw_of 320 (by decide +kernel) (by decide +kernel)
theorem wm_321 : Cond.classLink "TracedCodeLaw" 15 "java/lang/IllegalStateException" ∈ tw := tw_of 321 (by decide +kernel) (by decide +kernel)
theorem wm_322 : Cond.methodLink "TracedCodeLaw" 7 yT_set ∈ tw := tw_of 322 (by decide +kernel) (by decide +kernel)
theorem wm_323 : Cond.instanceMethod yT_set ∈ tw := tw_of 323 (by decide +kernel) (by decide +kernel)
theorem wm_324 : Cond.selects "TracedCode" yT_set yT_set ∈ tw := tw_of 324 (by decide +kernel) (by decide +kernel)
theorem wm_325 : Cond.code yT_set prog_1_method_2_code 3 (some .int) ∈ tw := tw_of 325 (by decide +kernel) (by decide +kernel)
theorem wm_326 : Cond.methodLink "TracedCode" 44 yT_isRegister ∈ tw := tw_of 326 (by decide +kernel) (by decide +kernel)
theorem wm_327 : Cond.static yT_isRegister ∈ tw := tw_of 327 (by decide +kernel) (by decide +kernel)
theorem wm_328 : Cond.code yT_isRegister prog_1_method_23_code 1 (some .boolean) ∈ tw := tw_of 328 (by decide +kernel) (by decide +kernel)
theorem wm_329 : Cond.methodLink "TracedCode" 56 yT_isBelow ∈ tw := tw_of 329 (by decide +kernel) (by decide +kernel)
theorem wm_330 : Cond.static yT_isBelow ∈ tw := tw_of 330 (by decide +kernel) (by decide +kernel)
theorem wm_331 : Cond.code yT_isBelow prog_1_method_25_code 2 (some .boolean) ∈ tw := tw_of 331 (by decide +kernel) (by decide +kernel)
theorem wm_332 : Cond.methodLink "TracedCode" 48 yT_requireArgument ∈ tw := tw_of 332 (by decide +kernel) (by decide +kernel)
theorem wm_333 : Cond.static yT_requireArgument ∈ tw := tw_of 333 (by decide +kernel) (by decide +kernel)
theorem wm_334 : Cond.code yT_requireArgument prog_1_method_28_code 1 (none : Option Jvm.ClassFile.FieldType) ∈ tw := tw_of 334 (by decide +kernel) (by decide +kernel)
theorem wm_335 : Cond.classLink "TracedCode" 151 "java/lang/IllegalArgumentException" ∈ tw := tw_of 335 (by decide +kernel) (by decide +kernel)
theorem wm_336 : Cond.instantiable "java/lang/IllegalArgumentException" 6 ∈ tw := tw_of 336 (by decide +kernel) (by decide +kernel)
theorem wm_344 : Cond.selects "java/lang/IllegalArgumentException" (⟨"java/lang/Throwable", "fillInStackTrace", "(I)Ljava/lang/Throwable;"⟩ : MethodName) (⟨"java/lang/Throwable", "fillInStackTrace", "(I)Ljava/lang/Throwable;"⟩ : MethodName) ∈ tw := tw_of 344 (by decide +kernel) (by decide +kernel)
theorem wm_345 : Cond.selects "java/lang/IllegalArgumentException" (⟨"java/lang/Throwable", "fillInStackTrace", "()Ljava/lang/Throwable;"⟩ : MethodName) (⟨"java/lang/Throwable", "fillInStackTrace", "()Ljava/lang/Throwable;"⟩ : MethodName) ∈ tw := tw_of 345 (by decide +kernel) (by decide +kernel)
theorem wm_346 : Cond.lays "java/lang/IllegalArgumentException" "java/lang/Throwable" "cause" "Ljava/lang/Throwable;" ∈ tw := tw_of 346 (by decide +kernel) (by decide +kernel)
theorem wm_347 : Cond.lays "java/lang/Throwable" "java/lang/Throwable" "cause" "Ljava/lang/Throwable;" ∈ tw := tw_of 347 (by decide +kernel) (by decide +kernel)
theorem wm_348 : Cond.lays "java/lang/IllegalArgumentException" "java/lang/Throwable" "stackTrace" "[Ljava/lang/StackTraceElement;" ∈ tw := tw_of 348 (by decide +kernel) (by decide +kernel)
theorem wm_349 : Cond.lays "java/lang/Throwable" "java/lang/Throwable" "stackTrace" "[Ljava/lang/StackTraceElement;" ∈ tw := tw_of 349 (by decide +kernel) (by decide +kernel)
theorem wm_350 : Cond.lays "java/lang/IllegalArgumentException" "java/lang/Throwable" "suppressedExceptions" "Ljava/util/List;" ∈ tw := tw_of 350 (by decide +kernel) (by decide +kernel)
theorem wm_351 : Cond.lays "java/lang/Throwable" "java/lang/Throwable" "suppressedExceptions" "Ljava/util/List;" ∈ tw := tw_of 351 (by decide +kernel) (by decide +kernel)
theorem wm_352 : Cond.lays "java/lang/IllegalArgumentException" "java/lang/Throwable" "detailMessage" "Ljava/lang/String;" ∈ tw := tw_of 352 (by decide +kernel) (by decide +kernel)
theorem wm_353 : Cond.lays "java/lang/Throwable" "java/lang/Throwable" "detailMessage" "Ljava/lang/String;" ∈ tw := tw_of 353 (by decide +kernel) (by decide +kernel)
theorem wm_354 : Cond.lays "java/lang/IllegalArgumentException" "java/lang/Throwable" "backtrace" "Ljava/lang/Object;" ∈ tw := tw_of 354 (by decide +kernel) (by decide +kernel)
theorem wm_355 : Cond.lays "java/lang/Throwable" "java/lang/Throwable" "backtrace" "Ljava/lang/Object;" ∈ tw := tw_of 355 (by decide +kernel) (by decide +kernel)
theorem wm_356 : Cond.fieldLink "java/lang/Throwable" 198 "java/lang/Throwable" "backtrace" "Ljava/lang/Object;" ∈ tw := tw_of 356 (by decide +kernel) (by decide +kernel)
theorem wm_358 : Cond.instanceMethod (⟨"java/lang/Throwable", "<init>", "()V"⟩ : MethodName) ∈ tw := tw_of 358 (by decide +kernel) (by decide +kernel)
theorem wm_359 : Cond.code (⟨"java/lang/Throwable", "<init>", "()V"⟩ : MethodName) prog_17_method_1_code 1 (none : Option Jvm.ClassFile.FieldType) ∈ tw := tw_of 359 (by decide +kernel) (by decide +kernel)
theorem wm_360 : Cond.methodLink "java/lang/Throwable" 1 (⟨"java/lang/Object", "<init>", "()V"⟩ : MethodName) ∈ tw := tw_of 360 (by decide +kernel) (by decide +kernel)
theorem wm_361 : Cond.fieldLink "java/lang/Throwable" 13 "java/lang/Throwable" "UNASSIGNED_STACK" "[Ljava/lang/StackTraceElement;" ∈ tw := tw_of 361 (by decide +kernel) (by decide +kernel)
theorem wm_363 : Cond.fieldLink "java/lang/Throwable" 20 "java/lang/Throwable" "SUPPRESSED_SENTINEL" "Ljava/util/List;" ∈ tw := tw_of 363 (by decide +kernel) (by decide +kernel)
theorem wm_365 : Cond.methodLink "java/lang/Throwable" 27 (⟨"java/lang/Throwable", "fillInStackTrace", "()Ljava/lang/Throwable;"⟩ : MethodName) ∈ tw := tw_of 365 (by decide +kernel) (by decide +kernel)
theorem wm_366 : Cond.instanceMethod (⟨"java/lang/Throwable", "fillInStackTrace", "()Ljava/lang/Throwable;"⟩ : MethodName) ∈ tw := tw_of 366 (by decide +kernel) (by decide +kernel)
theorem wm_367 : Cond.sameMethod "java/lang/Throwable" "java/lang/Throwable" "fillInStackTrace" "()Ljava/lang/Throwable;" ∈ tw := tw_of 367 (by decide +kernel) (by decide +kernel)
theorem wm_368 : Cond.selects "java/lang/IllegalStateException" (⟨"java/lang/Throwable", "fillInStackTrace", "()Ljava/lang/Throwable;"⟩ : MethodName) (⟨"java/lang/Throwable", "fillInStackTrace", "()Ljava/lang/Throwable;"⟩ : MethodName) ∈ tw := tw_of 368 (by decide +kernel) (by decide +kernel)
theorem wm_369 : Cond.selects "java/lang/IndexOutOfBoundsException" (⟨"java/lang/Throwable", "fillInStackTrace", "()Ljava/lang/Throwable;"⟩ : MethodName) (⟨"java/lang/Throwable", "fillInStackTrace", "()Ljava/lang/Throwable;"⟩ : MethodName) ∈ tw := tw_of 369 (by decide +kernel) (by decide +kernel)
theorem wm_370 : Cond.selects "java/util/NoSuchElementException" (⟨"java/lang/Throwable", "fillInStackTrace", "()Ljava/lang/Throwable;"⟩ : MethodName) (⟨"java/lang/Throwable", "fillInStackTrace", "()Ljava/lang/Throwable;"⟩ : MethodName) ∈ tw := tw_of 370 (by decide +kernel) (by decide +kernel)
theorem wm_372 : Cond.methodLink "java/lang/Throwable" 202 (⟨"java/lang/Throwable", "fillInStackTrace", "(I)Ljava/lang/Throwable;"⟩ : MethodName) ∈ tw := tw_of 372 (by decide +kernel) (by decide +kernel)
theorem wm_374 : Cond.instanceMethod (⟨"java/lang/Throwable", "fillInStackTrace", "(I)Ljava/lang/Throwable;"⟩ : MethodName) ∈ tw := tw_of 374 (by decide +kernel) (by decide +kernel)
theorem wm_375 : Cond.instantiable "java/lang/Throwable" 6 ∈ tw := tw_of 375 (by decide +kernel) (by decide +kernel)
theorem wm_377 : Cond.methodLink "TracedCode" 153 (⟨"java/lang/IllegalArgumentException", "<init>", "()V"⟩ : MethodName) ∈ tw := tw_of 377 (by decide +kernel) (by decide +kernel)
theorem wm_378 : Cond.instanceMethod (⟨"java/lang/IllegalArgumentException", "<init>", "()V"⟩ : MethodName) ∈ tw := tw_of 378 (by decide +kernel) (by decide +kernel)
theorem wm_379 : Cond.code (⟨"java/lang/IllegalArgumentException", "<init>", "()V"⟩ : MethodName) prog_12_method_1_code 1 (none : Option Jvm.ClassFile.FieldType) ∈ tw := tw_of 379 (by decide +kernel) (by decide +kernel)
theorem wm_380 : Cond.methodLink "java/lang/IllegalArgumentException" 1 (⟨"java/lang/RuntimeException", "<init>", "()V"⟩ : MethodName) ∈ tw := tw_of 380 (by decide +kernel) (by decide +kernel)
theorem wm_381 : Cond.instanceMethod (⟨"java/lang/RuntimeException", "<init>", "()V"⟩ : MethodName) ∈ tw := tw_of 381 (by decide +kernel) (by decide +kernel)
theorem wm_382 : Cond.code (⟨"java/lang/RuntimeException", "<init>", "()V"⟩ : MethodName) prog_15_method_1_code 1 (none : Option Jvm.ClassFile.FieldType) ∈ tw := tw_of 382 (by decide +kernel) (by decide +kernel)
theorem wm_383 : Cond.methodLink "java/lang/RuntimeException" 1 (⟨"java/lang/Exception", "<init>", "()V"⟩ : MethodName) ∈ tw := tw_of 383 (by decide +kernel) (by decide +kernel)
theorem wm_384 : Cond.instanceMethod (⟨"java/lang/Exception", "<init>", "()V"⟩ : MethodName) ∈ tw := tw_of 384 (by decide +kernel) (by decide +kernel)
theorem wm_385 : Cond.code (⟨"java/lang/Exception", "<init>", "()V"⟩ : MethodName) prog_11_method_1_code 1 (none : Option Jvm.ClassFile.FieldType) ∈ tw := tw_of 385 (by decide +kernel) (by decide +kernel)
theorem wm_386 : Cond.methodLink "java/lang/Exception" 1 (⟨"java/lang/Throwable", "<init>", "()V"⟩ : MethodName) ∈ tw := tw_of 386 (by decide +kernel) (by decide +kernel)
theorem wm_387 : Cond.fieldLink "java/lang/Throwable" 198 "java/lang/Throwable" "backtrace" "Ljava/lang/Object;" ∈ tw := tw_of 387 (by decide +kernel) (by decide +kernel)
theorem wm_388 : Cond.fieldLink "java/lang/Throwable" 7 "java/lang/Throwable" "cause" "Ljava/lang/Throwable;" ∈ tw := tw_of 388 (by decide +kernel) (by decide +kernel)
theorem wm_389 : Cond.fieldLink "java/lang/Throwable" 17 "java/lang/Throwable" "stackTrace" "[Ljava/lang/StackTraceElement;" ∈ tw := tw_of 389 (by decide +kernel) (by decide +kernel)
theorem wm_390 : Cond.fieldLink "java/lang/Throwable" 24 "java/lang/Throwable" "suppressedExceptions" "Ljava/util/List;" ∈ tw := tw_of 390 (by decide +kernel) (by decide +kernel)
theorem wm_395 : Cond.lays "java/lang/IllegalArgumentException" "java/lang/Throwable" "depth" "I" ∈ tw := tw_of 395 (by decide +kernel) (by decide +kernel)
theorem wm_399 : Cond.methodLink "TracedCode" 52 yT_newLine ∈ tw := tw_of 399 (by decide +kernel) (by decide +kernel)
theorem wm_401 : Cond.instanceMethod yT_newLine ∈ tw := tw_of 401 (by decide +kernel) (by decide +kernel)
theorem wm_402 : Cond.code yT_newLine prog_1_method_21_code 5 (some .int) ∈ tw := tw_of 402 (by decide +kernel) (by decide +kernel)
theorem wm_403 : Cond.methodLink "TracedCode" 88 yC_size ∈ tw := tw_of 403 (by decide +kernel) (by decide +kernel)
theorem wm_404 : Cond.methodLink "TracedCode" 133 yT_requireState ∈ tw := tw_of 404 (by decide +kernel) (by decide +kernel)
theorem wm_405 : Cond.static yT_requireState ∈ tw := tw_of 405 (by decide +kernel) (by decide +kernel)
theorem wm_406 : Cond.code yT_requireState prog_1_method_27_code 1 (none : Option Jvm.ClassFile.FieldType) ∈ tw := tw_of 406 (by decide +kernel) (by decide +kernel)
theorem wm_407 : Cond.classLink "TracedCode" 148 "java/lang/IllegalStateException" ∈ tw := tw_of 407 (by decide +kernel) (by decide +kernel)
theorem wm_408 : Cond.instantiable "java/lang/IllegalStateException" 6 ∈ tw := tw_of 408 (by decide +kernel) (by decide +kernel)
theorem wm_410 : Cond.selects "java/lang/IllegalStateException" (⟨"java/lang/Throwable", "fillInStackTrace", "(I)Ljava/lang/Throwable;"⟩ : MethodName) (⟨"java/lang/Throwable", "fillInStackTrace", "(I)Ljava/lang/Throwable;"⟩ : MethodName) ∈ tw := tw_of 410 (by decide +kernel) (by decide +kernel)
theorem wm_411 : Cond.lays "java/lang/IllegalStateException" "java/lang/Throwable" "cause" "Ljava/lang/Throwable;" ∈ tw := tw_of 411 (by decide +kernel) (by decide +kernel)
theorem wm_412 : Cond.lays "java/lang/IllegalStateException" "java/lang/Throwable" "stackTrace" "[Ljava/lang/StackTraceElement;" ∈ tw := tw_of 412 (by decide +kernel) (by decide +kernel)
theorem wm_413 : Cond.lays "java/lang/IllegalStateException" "java/lang/Throwable" "suppressedExceptions" "Ljava/util/List;" ∈ tw := tw_of 413 (by decide +kernel) (by decide +kernel)
theorem wm_414 : Cond.lays "java/lang/IllegalStateException" "java/lang/Throwable" "detailMessage" "Ljava/lang/String;" ∈ tw := tw_of 414 (by decide +kernel) (by decide +kernel)
theorem wm_415 : Cond.lays "java/lang/IllegalStateException" "java/lang/Throwable" "backtrace" "Ljava/lang/Object;" ∈ tw := tw_of 415 (by decide +kernel) (by decide +kernel)
theorem wm_416 : Cond.methodLink "TracedCode" 150 (⟨"java/lang/IllegalStateException", "<init>", "()V"⟩ : MethodName) ∈ tw := tw_of 416 (by decide +kernel) (by decide +kernel)
theorem wm_417 : Cond.instanceMethod (⟨"java/lang/IllegalStateException", "<init>", "()V"⟩ : MethodName) ∈ tw := tw_of 417 (by decide +kernel) (by decide +kernel)
theorem wm_418 : Cond.code (⟨"java/lang/IllegalStateException", "<init>", "()V"⟩ : MethodName) prog_13_method_1_code 1 (none : Option Jvm.ClassFile.FieldType) ∈ tw := tw_of 418 (by decide +kernel) (by decide +kernel)
theorem wm_419 : Cond.methodLink "java/lang/IllegalStateException" 1 (⟨"java/lang/RuntimeException", "<init>", "()V"⟩ : MethodName) ∈ tw := tw_of 419 (by decide +kernel) (by decide +kernel)
theorem wm_420 : Cond.lays "java/lang/IllegalStateException" "java/lang/Throwable" "depth" "I" ∈ tw := tw_of 420 (by decide +kernel) (by decide +kernel)
theorem wm_422 : Cond.methodLink "TracedCode" 145 yC_append ∈ tw := tw_of 422 (by decide +kernel) (by decide +kernel)
theorem wm_423 : Cond.instanceMethod yC_append ∈ tw := tw_of 423 (by decide +kernel) (by decide +kernel)
theorem wm_424 : Cond.selects "TracedCode$Code" yC_append yC_append ∈ tw := tw_of 424 (by decide +kernel) (by decide +kernel)
theorem wm_425 : Cond.code yC_append prog_3_method_5_code 6 (some .int) ∈ tw := tw_of 425 (by decide +kernel) (by decide +kernel)
theorem wm_426 : Cond.methodLink "TracedCodeLaw" 86 yL_copy ∈ tw := tw_of 426 (by decide +kernel) (by decide +kernel)
theorem wm_427 : Cond.static yL_copy ∈ tw := tw_of 427 (by decide +kernel) (by decide +kernel)
theorem wm_428 : Cond.codeWith yL_copy method_4_code 5 (some .int) [(0, 10, 13, 13), (0, 10, 17, 15)] ∈ tw := tw_of 428 (by decide +kernel) (by decide +kernel)
theorem wm_429 : Cond.methodLink "TracedCodeLaw" 17 yT_copy ∈ tw := tw_of 429 (by decide +kernel) (by decide +kernel)
theorem wm_430 : Cond.instanceMethod yT_copy ∈ tw := tw_of 430 (by decide +kernel) (by decide +kernel)
theorem wm_431 : Cond.selects "TracedCode" yT_copy yT_copy ∈ tw := tw_of 431 (by decide +kernel) (by decide +kernel)
theorem wm_432 : Cond.code yT_copy prog_1_method_3_code 3 (some .int) ∈ tw := tw_of 432 (by decide +kernel) (by decide +kernel)
theorem wm_433 : Cond.methodLink "TracedCodeLaw" 89 yL_add ∈ tw := tw_of 433 (by decide +kernel) (by decide +kernel)
theorem wm_434 : Cond.static yL_add ∈ tw := tw_of 434 (by decide +kernel) (by decide +kernel)
theorem wm_435 : Cond.codeWith yL_add method_5_code 6 (some .int) [(0, 12, 15, 13), (0, 12, 19, 15)] ∈ tw := tw_of 435 (by decide +kernel) (by decide +kernel)
theorem wm_436 : Cond.methodLink "TracedCodeLaw" 20 yT_add ∈ tw := tw_of 436 (by decide +kernel) (by decide +kernel)
theorem wm_437 : Cond.instanceMethod yT_add ∈ tw := tw_of 437 (by decide +kernel) (by decide +kernel)
theorem wm_438 : Cond.selects "TracedCode" yT_add yT_add ∈ tw := tw_of 438 (by decide +kernel) (by decide +kernel)
theorem wm_439 : Cond.code yT_add prog_1_method_4_code 4 (some .int) ∈ tw := tw_of 439 (by decide +kernel) (by decide +kernel)
theorem wm_440 : Cond.methodLink "TracedCodeLaw" 93 yL_out ∈ tw := tw_of 440 (by decide +kernel) (by decide +kernel)
theorem wm_441 : Cond.static yL_out ∈ tw := tw_of 441 (by decide +kernel) (by decide +kernel)
theorem wm_442 : Cond.codeWith yL_out method_6_code 4 (some .int) [(0, 9, 12, 13), (0, 9, 15, 15)] ∈ tw := tw_of 442 (by decide +kernel) (by decide +kernel)
theorem wm_443 : Cond.methodLink "TracedCodeLaw" 24 yT_out ∈ tw := tw_of 443 (by decide +kernel) (by decide +kernel)
theorem wm_444 : Cond.instanceMethod yT_out ∈ tw := tw_of 444 (by decide +kernel) (by decide +kernel)
theorem wm_445 : Cond.selects "TracedCode" yT_out yT_out ∈ tw := tw_of 445 (by decide +kernel) (by decide +kernel)
theorem wm_446 : Cond.code yT_out prog_1_method_5_code 2 (some .int) ∈ tw := tw_of 446 (by decide +kernel) (by decide +kernel)
theorem wm_447 : Cond.methodLink "TracedCodeLaw" 97 yL_jump ∈ tw := tw_of 447 (by decide +kernel) (by decide +kernel)
theorem wm_448 : Cond.static yL_jump ∈ tw := tw_of 448 (by decide +kernel) (by decide +kernel)
theorem wm_449 : Cond.codeWith yL_jump method_7_code 5 (some .int) [(0, 10, 13, 13), (0, 10, 17, 15)] ∈ tw := tw_of 449 (by decide +kernel) (by decide +kernel)
theorem wm_450 : Cond.methodLink "TracedCodeLaw" 28 yT_jump ∈ tw := tw_of 450 (by decide +kernel) (by decide +kernel)
theorem wm_451 : Cond.instanceMethod yT_jump ∈ tw := tw_of 451 (by decide +kernel) (by decide +kernel)
theorem wm_452 : Cond.selects "TracedCode" yT_jump yT_jump ∈ tw := tw_of 452 (by decide +kernel) (by decide +kernel)
theorem wm_453 : Cond.code yT_jump prog_1_method_6_code 3 (some .int) ∈ tw := tw_of 453 (by decide +kernel) (by decide +kernel)
theorem wm_454 : Cond.methodLink "TracedCodeLaw" 100 yL_name ∈ tw := tw_of 454 (by decide +kernel) (by decide +kernel)
theorem wm_455 : Cond.static yL_name ∈ tw := tw_of 455 (by decide +kernel) (by decide +kernel)
theorem wm_456 : Cond.codeWith yL_name method_8_code 5 (some .int) [(0, 10, 13, 13), (0, 10, 17, 15)] ∈ tw := tw_of 456 (by decide +kernel) (by decide +kernel)
theorem wm_457 : Cond.methodLink "TracedCodeLaw" 31 yT_name ∈ tw := tw_of 457 (by decide +kernel) (by decide +kernel)
theorem wm_458 : Cond.instanceMethod yT_name ∈ tw := tw_of 458 (by decide +kernel) (by decide +kernel)
theorem wm_459 : Cond.selects "TracedCode" yT_name yT_name ∈ tw := tw_of 459 (by decide +kernel) (by decide +kernel)
theorem wm_460 : Cond.code yT_name prog_1_method_7_code 3 (some .int) ∈ tw := tw_of 460 (by decide +kernel) (by decide +kernel)
theorem wm_461 : Cond.methodLink "TracedCode" 60 yT_isVariable ∈ tw := tw_of 461 (by decide +kernel) (by decide +kernel)
theorem wm_462 : Cond.static yT_isVariable ∈ tw := tw_of 462 (by decide +kernel) (by decide +kernel)
theorem wm_463 : Cond.code yT_isVariable prog_1_method_24_code 1 (some .boolean) ∈ tw := tw_of 463 (by decide +kernel) (by decide +kernel)
theorem wm_464 : Cond.methodLink "TracedCodeLaw" 111 yL_kept ∈ tw := tw_of 464 (by decide +kernel) (by decide +kernel)
theorem wm_465 : Cond.static yL_kept ∈ tw := tw_of 465 (by decide +kernel) (by decide +kernel)
theorem wm_466 : Cond.codeWith yL_kept method_9_code 3 (some .int) [(0, 8, 11, 15)] ∈ tw := tw_of 466 (by decide +kernel) (by decide +kernel)
theorem wm_467 : Cond.methodLink "TracedCodeLaw" 34 yT_kept ∈ tw := tw_of 467 (by decide +kernel) (by decide +kernel)
theorem wm_468 : Cond.instanceMethod yT_kept ∈ tw := tw_of 468 (by decide +kernel) (by decide +kernel)
theorem wm_469 : Cond.selects "TracedCode" yT_kept yT_kept ∈ tw := tw_of 469 (by decide +kernel) (by decide +kernel)
theorem wm_470 : Cond.code yT_kept prog_1_method_10_code 1 (some .int) ∈ tw := tw_of 470 (by decide +kernel) (by decide +kernel)
theorem wm_471 : Cond.methodLink "TracedCode" 81 yT_requireShortProgram ∈ tw := tw_of 471 (by decide +kernel) (by decide +kernel)
theorem wm_473 : Cond.instanceMethod yT_requireShortProgram ∈ tw := tw_of 473 (by decide +kernel) (by decide +kernel)
theorem wm_474 : Cond.code yT_requireShortProgram prog_1_method_26_code 1 (none : Option Jvm.ClassFile.FieldType) ∈ tw := tw_of 474 (by decide +kernel) (by decide +kernel)
theorem wm_475 : Cond.methodLink "TracedCode" 84 yC_fullLines ∈ tw := tw_of 475 (by decide +kernel) (by decide +kernel)
theorem wm_476 : Cond.instanceMethod yC_fullLines ∈ tw := tw_of 476 (by decide +kernel) (by decide +kernel)
theorem wm_477 : Cond.selects "TracedCode$Code" yC_fullLines yC_fullLines ∈ tw := tw_of 477 (by decide +kernel) (by decide +kernel)
theorem wm_478 : Cond.code yC_fullLines prog_3_method_10_code 3 (some .int) ∈ tw := tw_of 478 (by decide +kernel) (by decide +kernel)
theorem wm_479 : Cond.methodLink "TracedCode$Code" 26 yC_isEmpty ∈ tw := tw_of 479 (by decide +kernel) (by decide +kernel)
theorem wm_480 : Cond.methodLink "TracedCodeLaw" 115 yL_part ∈ tw := tw_of 480 (by decide +kernel) (by decide +kernel)
theorem wm_481 : Cond.static yL_part ∈ tw := tw_of 481 (by decide +kernel) (by decide +kernel)
theorem wm_482 : Cond.codeWith yL_part method_10_code 5 (some .int) [(0, 10, 13, 15), (0, 10, 17, 41)] ∈ tw := tw_of 482 (by decide +kernel) (by decide +kernel)
theorem wm_483 : Cond.classLink "TracedCodeLaw" 41 "java/lang/IndexOutOfBoundsException" ∈ tw := tw_of 483 (by decide +kernel) (by decide +kernel)
theorem wm_484 : Cond.methodLink "TracedCodeLaw" 38 yT_part ∈ tw := tw_of 484 (by decide +kernel) (by decide +kernel)
theorem wm_485 : Cond.instanceMethod yT_part ∈ tw := tw_of 485 (by decide +kernel) (by decide +kernel)
theorem wm_486 : Cond.selects "TracedCode" yT_part yT_part ∈ tw := tw_of 486 (by decide +kernel) (by decide +kernel)
theorem wm_487 : Cond.code yT_part prog_1_method_11_code 3 (some .int) ∈ tw := tw_of 487 (by decide +kernel) (by decide +kernel)
theorem wm_488 : Cond.methodLink "TracedCode" 91 yT_requireIndex ∈ tw := tw_of 488 (by decide +kernel) (by decide +kernel)
theorem wm_489 : Cond.static yT_requireIndex ∈ tw := tw_of 489 (by decide +kernel) (by decide +kernel)
theorem wm_490 : Cond.code yT_requireIndex prog_1_method_29_code 1 (none : Option Jvm.ClassFile.FieldType) ∈ tw := tw_of 490 (by decide +kernel) (by decide +kernel)
theorem wm_491 : Cond.classLink "TracedCode" 154 "java/lang/IndexOutOfBoundsException" ∈ tw := tw_of 491 (by decide +kernel) (by decide +kernel)
theorem wm_492 : Cond.instantiable "java/lang/IndexOutOfBoundsException" 6 ∈ tw := tw_of 492 (by decide +kernel) (by decide +kernel)
theorem wm_494 : Cond.selects "java/lang/IndexOutOfBoundsException" (⟨"java/lang/Throwable", "fillInStackTrace", "(I)Ljava/lang/Throwable;"⟩ : MethodName) (⟨"java/lang/Throwable", "fillInStackTrace", "(I)Ljava/lang/Throwable;"⟩ : MethodName) ∈ tw := tw_of 494 (by decide +kernel) (by decide +kernel)
theorem wm_495 : Cond.lays "java/lang/IndexOutOfBoundsException" "java/lang/Throwable" "cause" "Ljava/lang/Throwable;" ∈ tw := tw_of 495 (by decide +kernel) (by decide +kernel)
theorem wm_496 : Cond.lays "java/lang/IndexOutOfBoundsException" "java/lang/Throwable" "stackTrace" "[Ljava/lang/StackTraceElement;" ∈ tw := tw_of 496 (by decide +kernel) (by decide +kernel)
theorem wm_497 : Cond.lays "java/lang/IndexOutOfBoundsException" "java/lang/Throwable" "suppressedExceptions" "Ljava/util/List;" ∈ tw := tw_of 497 (by decide +kernel) (by decide +kernel)
theorem wm_498 : Cond.lays "java/lang/IndexOutOfBoundsException" "java/lang/Throwable" "detailMessage" "Ljava/lang/String;" ∈ tw := tw_of 498 (by decide +kernel) (by decide +kernel)
theorem wm_499 : Cond.lays "java/lang/IndexOutOfBoundsException" "java/lang/Throwable" "backtrace" "Ljava/lang/Object;" ∈ tw := tw_of 499 (by decide +kernel) (by decide +kernel)
theorem wm_500 : Cond.methodLink "TracedCode" 156 (⟨"java/lang/IndexOutOfBoundsException", "<init>", "()V"⟩ : MethodName) ∈ tw := tw_of 500 (by decide +kernel) (by decide +kernel)
theorem wm_501 : Cond.instanceMethod (⟨"java/lang/IndexOutOfBoundsException", "<init>", "()V"⟩ : MethodName) ∈ tw := tw_of 501 (by decide +kernel) (by decide +kernel)
theorem wm_502 : Cond.code (⟨"java/lang/IndexOutOfBoundsException", "<init>", "()V"⟩ : MethodName) prog_14_method_1_code 1 (none : Option Jvm.ClassFile.FieldType) ∈ tw := tw_of 502 (by decide +kernel) (by decide +kernel)
theorem wm_503 : Cond.methodLink "java/lang/IndexOutOfBoundsException" 1 (⟨"java/lang/RuntimeException", "<init>", "()V"⟩ : MethodName) ∈ tw := tw_of 503 (by decide +kernel) (by decide +kernel)
theorem wm_504 : Cond.lays "java/lang/IndexOutOfBoundsException" "java/lang/Throwable" "depth" "I" ∈ tw := tw_of 504 (by decide +kernel) (by decide +kernel)
theorem wm_506 : Cond.methodLink "TracedCode" 94 yC_number ∈ tw := tw_of 506 (by decide +kernel) (by decide +kernel)
theorem wm_507 : Cond.methodLink "TracedCodeLaw" 118 yL_where ∈ tw := tw_of 507 (by decide +kernel) (by decide +kernel)
theorem wm_508 : Cond.static yL_where ∈ tw := tw_of 508 (by decide +kernel) (by decide +kernel)
theorem wm_509 : Cond.codeWith yL_where method_11_code 5 (some .int) [(0, 10, 13, 15), (0, 10, 17, 41)] ∈ tw := tw_of 509 (by decide +kernel) (by decide +kernel)
theorem wm_510 : Cond.methodLink "TracedCodeLaw" 43 yT_where ∈ tw := tw_of 510 (by decide +kernel) (by decide +kernel)
theorem wm_511 : Cond.instanceMethod yT_where ∈ tw := tw_of 511 (by decide +kernel) (by decide +kernel)
theorem wm_512 : Cond.selects "TracedCode" yT_where yT_where ∈ tw := tw_of 512 (by decide +kernel) (by decide +kernel)
theorem wm_513 : Cond.code yT_where prog_1_method_12_code 3 (some .int) ∈ tw := tw_of 513 (by decide +kernel) (by decide +kernel)
theorem wm_514 : Cond.methodLink "TracedCode" 98 yT_isPoint ∈ tw := tw_of 514 (by decide +kernel) (by decide +kernel)
theorem wm_516 : Cond.instanceMethod yT_isPoint ∈ tw := tw_of 516 (by decide +kernel) (by decide +kernel)
theorem wm_517 : Cond.code yT_isPoint prog_1_method_22_code 2 (some .boolean) ∈ tw := tw_of 517 (by decide +kernel) (by decide +kernel)
theorem wm_518 : Cond.methodLink "TracedCode" 101 yK_placeOfVariable ∈ tw := tw_of 518 (by decide +kernel) (by decide +kernel)
theorem wm_519 : Cond.instanceMethod yK_placeOfVariable ∈ tw := tw_of 519 (by decide +kernel) (by decide +kernel)
theorem wm_520 : Cond.selects "TracedCode$Carriers" yK_placeOfVariable yK_placeOfVariable ∈ tw := tw_of 520 (by decide +kernel) (by decide +kernel)
theorem wm_521 : Cond.code yK_placeOfVariable prog_2_method_4_code 4 (some .int) ∈ tw := tw_of 521 (by decide +kernel) (by decide +kernel)
theorem wm_522 : Cond.methodLink "TracedCodeLaw" 121 yL_carriers ∈ tw := tw_of 522 (by decide +kernel) (by decide +kernel)
theorem wm_523 : Cond.static yL_carriers ∈ tw := tw_of 523 (by decide +kernel) (by decide +kernel)
theorem wm_524 : Cond.codeWith yL_carriers method_12_code 5 (some .int) [(0, 10, 13, 15), (0, 10, 17, 41)] ∈ tw := tw_of 524 (by decide +kernel) (by decide +kernel)
theorem wm_525 : Cond.methodLink "TracedCodeLaw" 46 yT_carriers ∈ tw := tw_of 525 (by decide +kernel) (by decide +kernel)
theorem wm_526 : Cond.instanceMethod yT_carriers ∈ tw := tw_of 526 (by decide +kernel) (by decide +kernel)
theorem wm_527 : Cond.selects "TracedCode" yT_carriers yT_carriers ∈ tw := tw_of 527 (by decide +kernel) (by decide +kernel)
theorem wm_528 : Cond.code yT_carriers prog_1_method_13_code 3 (some .int) ∈ tw := tw_of 528 (by decide +kernel) (by decide +kernel)
theorem wm_529 : Cond.methodLink "TracedCode" 104 yK_ofRegister ∈ tw := tw_of 529 (by decide +kernel) (by decide +kernel)
theorem wm_530 : Cond.instanceMethod yK_ofRegister ∈ tw := tw_of 530 (by decide +kernel) (by decide +kernel)
theorem wm_531 : Cond.selects "TracedCode$Carriers" yK_ofRegister yK_ofRegister ∈ tw := tw_of 531 (by decide +kernel) (by decide +kernel)
theorem wm_532 : Cond.code yK_ofRegister prog_2_method_3_code 3 (some .int) ∈ tw := tw_of 532 (by decide +kernel) (by decide +kernel)
theorem wm_533 : Cond.methodLink "TracedCodeLaw" 124 yL_restart ∈ tw := tw_of 533 (by decide +kernel) (by decide +kernel)
theorem wm_534 : Cond.static yL_restart ∈ tw := tw_of 534 (by decide +kernel) (by decide +kernel)
theorem wm_535 : Cond.codeWith yL_restart method_13_code 2 (some .int) [(0, 4, 7, 15)] ∈ tw := tw_of 535 (by decide +kernel) (by decide +kernel)
theorem wm_536 : Cond.methodLink "TracedCodeLaw" 49 yT_restart ∈ tw := tw_of 536 (by decide +kernel) (by decide +kernel)
theorem wm_537 : Cond.instanceMethod yT_restart ∈ tw := tw_of 537 (by decide +kernel) (by decide +kernel)
theorem wm_538 : Cond.selects "TracedCode" yT_restart yT_restart ∈ tw := tw_of 538 (by decide +kernel) (by decide +kernel)
theorem wm_539 : Cond.code yT_restart prog_1_method_14_code 1 (none : Option Jvm.ClassFile.FieldType) ∈ tw := tw_of 539 (by decide +kernel) (by decide +kernel)
theorem wm_540 : Cond.methodLink "TracedCodeLaw" 128 yL_step ∈ tw := tw_of 540 (by decide +kernel) (by decide +kernel)
theorem wm_541 : Cond.static yL_step ∈ tw := tw_of 541 (by decide +kernel) (by decide +kernel)
theorem wm_542 : Cond.codeWith yL_step method_14_code 3 (some .int) [(0, 8, 11, 15)] ∈ tw := tw_of 542 (by decide +kernel) (by decide +kernel)
theorem wm_543 : Cond.methodLink "TracedCodeLaw" 52 yT_step ∈ tw := tw_of 543 (by decide +kernel) (by decide +kernel)
theorem wm_544 : Cond.instanceMethod yT_step ∈ tw := tw_of 544 (by decide +kernel) (by decide +kernel)
theorem wm_545 : Cond.selects "TracedCode" yT_step yT_step ∈ tw := tw_of 545 (by decide +kernel) (by decide +kernel)
theorem wm_546 : Cond.code yT_step prog_1_method_15_code 1 (some .int) ∈ tw := tw_of 546 (by decide +kernel) (by decide +kernel)
theorem wm_547 : Cond.methodLink "TracedCode" 107 yR_advance ∈ tw := tw_of 547 (by decide +kernel) (by decide +kernel)
theorem wm_548 : Cond.instanceMethod yR_advance ∈ tw := tw_of 548 (by decide +kernel) (by decide +kernel)
theorem wm_549 : Cond.selects "TracedCode$Run" yR_advance yR_advance ∈ tw := tw_of 549 (by decide +kernel) (by decide +kernel)
theorem wm_550 : Cond.code yR_advance prog_7_method_7_code 3 (some .int) ∈ tw := tw_of 550 (by decide +kernel) (by decide +kernel)
theorem wm_551 : Cond.methodLink "TracedCode$Run" 39 yC_size ∈ tw := tw_of 551 (by decide +kernel) (by decide +kernel)
theorem wm_552 : Cond.methodLink "TracedCode$Run" 45 yC_kind ∈ tw := tw_of 552 (by decide +kernel) (by decide +kernel)
theorem wm_553 : Cond.methodLink "TracedCode$Run" 49 yC_number ∈ tw := tw_of 553 (by decide +kernel) (by decide +kernel)
theorem wm_554 : Cond.methodLink "TracedCode$Run" 53 yM_content ∈ tw := tw_of 554 (by decide +kernel) (by decide +kernel)
theorem wm_555 : Cond.instanceMethod yM_content ∈ tw := tw_of 555 (by decide +kernel) (by decide +kernel)
theorem wm_556 : Cond.selects "TracedCode$Machine" yM_content yM_content ∈ tw := tw_of 556 (by decide +kernel) (by decide +kernel)
theorem wm_557 : Cond.code yM_content prog_6_method_3_code 2 (some .int) ∈ tw := tw_of 557 (by decide +kernel) (by decide +kernel)
theorem wm_558 : Cond.methodLink "TracedCode$Run" 56 yR_giveValue ∈ tw := tw_of 558 (by decide +kernel) (by decide +kernel)
theorem wm_560 : Cond.instanceMethod yR_giveValue ∈ tw := tw_of 560 (by decide +kernel) (by decide +kernel)
theorem wm_561 : Cond.code yR_giveValue prog_7_method_8_code 3 (none : Option Jvm.ClassFile.FieldType) ∈ tw := tw_of 561 (by decide +kernel) (by decide +kernel)
theorem wm_562 : Cond.methodLink "TracedCode$Run" 60 yM_perform ∈ tw := tw_of 562 (by decide +kernel) (by decide +kernel)
theorem wm_563 : Cond.instanceMethod yM_perform ∈ tw := tw_of 563 (by decide +kernel) (by decide +kernel)
theorem wm_564 : Cond.selects "TracedCode$Machine" yM_perform yM_perform ∈ tw := tw_of 564 (by decide +kernel) (by decide +kernel)
theorem wm_565 : Cond.code yM_perform prog_6_method_6_code 5 (some .int) ∈ tw := tw_of 565 (by decide +kernel) (by decide +kernel)
theorem wm_566 : Cond.methodLink "TracedCode$Machine" 28 yC_number ∈ tw := tw_of 566 (by decide +kernel) (by decide +kernel)
theorem wm_567 : Cond.methodLink "TracedCode$Machine" 34 yC_kind ∈ tw := tw_of 567 (by decide +kernel) (by decide +kernel)
theorem wm_568 : Cond.methodLink "TracedCode$Machine" 38 yM_putOut ∈ tw := tw_of 568 (by decide +kernel) (by decide +kernel)
theorem wm_570 : Cond.instanceMethod yM_putOut ∈ tw := tw_of 570 (by decide +kernel) (by decide +kernel)
theorem wm_571 : Cond.code yM_putOut prog_6_method_7_code 2 (none : Option Jvm.ClassFile.FieldType) ∈ tw := tw_of 571 (by decide +kernel) (by decide +kernel)
theorem wm_572 : Cond.methodLink "TracedCode$Machine" 42 yC_target ∈ tw := tw_of 572 (by decide +kernel) (by decide +kernel)
theorem wm_573 : Cond.methodLink "TracedCodeLaw" 131 yL_line ∈ tw := tw_of 573 (by decide +kernel) (by decide +kernel)
theorem wm_574 : Cond.static yL_line ∈ tw := tw_of 574 (by decide +kernel) (by decide +kernel)
theorem wm_575 : Cond.codeWith yL_line method_15_code 3 (some .int) [(0, 8, 11, 15)] ∈ tw := tw_of 575 (by decide +kernel) (by decide +kernel)
theorem wm_576 : Cond.methodLink "TracedCodeLaw" 55 yT_line ∈ tw := tw_of 576 (by decide +kernel) (by decide +kernel)
theorem wm_577 : Cond.instanceMethod yT_line ∈ tw := tw_of 577 (by decide +kernel) (by decide +kernel)
theorem wm_578 : Cond.selects "TracedCode" yT_line yT_line ∈ tw := tw_of 578 (by decide +kernel) (by decide +kernel)
theorem wm_579 : Cond.code yT_line prog_1_method_16_code 1 (some .int) ∈ tw := tw_of 579 (by decide +kernel) (by decide +kernel)
theorem wm_580 : Cond.methodLink "TracedCode" 111 yR_position ∈ tw := tw_of 580 (by decide +kernel) (by decide +kernel)
theorem wm_581 : Cond.instanceMethod yR_position ∈ tw := tw_of 581 (by decide +kernel) (by decide +kernel)
theorem wm_582 : Cond.selects "TracedCode$Run" yR_position yR_position ∈ tw := tw_of 582 (by decide +kernel) (by decide +kernel)
theorem wm_583 : Cond.code yR_position prog_7_method_3_code 1 (some .int) ∈ tw := tw_of 583 (by decide +kernel) (by decide +kernel)
theorem wm_584 : Cond.methodLink "TracedCodeLaw" 134 yL_register ∈ tw := tw_of 584 (by decide +kernel) (by decide +kernel)
theorem wm_585 : Cond.static yL_register ∈ tw := tw_of 585 (by decide +kernel) (by decide +kernel)
theorem wm_586 : Cond.codeWith yL_register method_16_code 5 (some .int) [(0, 10, 13, 15), (0, 10, 17, 41)] ∈ tw := tw_of 586 (by decide +kernel) (by decide +kernel)
theorem wm_587 : Cond.methodLink "TracedCodeLaw" 58 yT_register ∈ tw := tw_of 587 (by decide +kernel) (by decide +kernel)
theorem wm_588 : Cond.instanceMethod yT_register ∈ tw := tw_of 588 (by decide +kernel) (by decide +kernel)
theorem wm_589 : Cond.selects "TracedCode" yT_register yT_register ∈ tw := tw_of 589 (by decide +kernel) (by decide +kernel)
theorem wm_590 : Cond.code yT_register prog_1_method_17_code 3 (some .int) ∈ tw := tw_of 590 (by decide +kernel) (by decide +kernel)
theorem wm_591 : Cond.methodLink "TracedCode" 114 yR_machine ∈ tw := tw_of 591 (by decide +kernel) (by decide +kernel)
theorem wm_592 : Cond.instanceMethod yR_machine ∈ tw := tw_of 592 (by decide +kernel) (by decide +kernel)
theorem wm_593 : Cond.selects "TracedCode$Run" yR_machine yR_machine ∈ tw := tw_of 593 (by decide +kernel) (by decide +kernel)
theorem wm_594 : Cond.code yR_machine prog_7_method_4_code 2 (some (.object "TracedCode$Machine")) ∈ tw := tw_of 594 (by decide +kernel) (by decide +kernel)
theorem wm_595 : Cond.methodLink "TracedCode" 118 yM_content ∈ tw := tw_of 595 (by decide +kernel) (by decide +kernel)
theorem wm_596 : Cond.methodLink "TracedCodeLaw" 138 yL_output ∈ tw := tw_of 596 (by decide +kernel) (by decide +kernel)
theorem wm_597 : Cond.static yL_output ∈ tw := tw_of 597 (by decide +kernel) (by decide +kernel)
theorem wm_598 : Cond.codeWith yL_output method_17_code 5 (some .int) [(0, 10, 13, 15), (0, 10, 17, 41)] ∈ tw := tw_of 598 (by decide +kernel) (by decide +kernel)
theorem wm_599 : Cond.methodLink "TracedCodeLaw" 62 yT_output ∈ tw := tw_of 599 (by decide +kernel) (by decide +kernel)
theorem wm_600 : Cond.instanceMethod yT_output ∈ tw := tw_of 600 (by decide +kernel) (by decide +kernel)
theorem wm_601 : Cond.selects "TracedCode" yT_output yT_output ∈ tw := tw_of 601 (by decide +kernel) (by decide +kernel)
theorem wm_602 : Cond.code yT_output prog_1_method_18_code 3 (some .int) ∈ tw := tw_of 602 (by decide +kernel) (by decide +kernel)
theorem wm_603 : Cond.methodLink "TracedCode" 124 yM_outputCount ∈ tw := tw_of 603 (by decide +kernel) (by decide +kernel)
theorem wm_604 : Cond.instanceMethod yM_outputCount ∈ tw := tw_of 604 (by decide +kernel) (by decide +kernel)
theorem wm_605 : Cond.selects "TracedCode$Machine" yM_outputCount yM_outputCount ∈ tw := tw_of 605 (by decide +kernel) (by decide +kernel)
theorem wm_606 : Cond.code yM_outputCount prog_6_method_4_code 1 (some .int) ∈ tw := tw_of 606 (by decide +kernel) (by decide +kernel)
theorem wm_607 : Cond.methodLink "TracedCode" 127 yM_outputAt ∈ tw := tw_of 607 (by decide +kernel) (by decide +kernel)
theorem wm_608 : Cond.instanceMethod yM_outputAt ∈ tw := tw_of 608 (by decide +kernel) (by decide +kernel)
theorem wm_609 : Cond.selects "TracedCode$Machine" yM_outputAt yM_outputAt ∈ tw := tw_of 609 (by decide +kernel) (by decide +kernel)
theorem wm_610 : Cond.code yM_outputAt prog_6_method_5_code 2 (some .int) ∈ tw := tw_of 610 (by decide +kernel) (by decide +kernel)
theorem wm_611 : Cond.methodLink "TracedCodeLaw" 141 yL_value ∈ tw := tw_of 611 (by decide +kernel) (by decide +kernel)
theorem wm_612 : Cond.static yL_value ∈ tw := tw_of 612 (by decide +kernel) (by decide +kernel)
theorem wm_613 : Cond.codeWith yL_value method_18_code 4 (some .int) [(0, 9, 12, 15), (0, 9, 15, 41)] ∈ tw := tw_of 613 (by decide +kernel) (by decide +kernel)
theorem wm_614 : Cond.methodLink "TracedCodeLaw" 65 yT_value ∈ tw := tw_of 614 (by decide +kernel) (by decide +kernel)
theorem wm_615 : Cond.instanceMethod yT_value ∈ tw := tw_of 615 (by decide +kernel) (by decide +kernel)
theorem wm_616 : Cond.selects "TracedCode" yT_value yT_value ∈ tw := tw_of 616 (by decide +kernel) (by decide +kernel)
theorem wm_617 : Cond.code yT_value prog_1_method_19_code 2 (some .int) ∈ tw := tw_of 617 (by decide +kernel) (by decide +kernel)
theorem wm_618 : Cond.methodLink "TracedCode" 130 yR_hasValue ∈ tw := tw_of 618 (by decide +kernel) (by decide +kernel)
theorem wm_619 : Cond.instanceMethod yR_hasValue ∈ tw := tw_of 619 (by decide +kernel) (by decide +kernel)
theorem wm_620 : Cond.selects "TracedCode$Run" yR_hasValue yR_hasValue ∈ tw := tw_of 620 (by decide +kernel) (by decide +kernel)
theorem wm_621 : Cond.code yR_hasValue prog_7_method_5_code 2 (some .boolean) ∈ tw := tw_of 621 (by decide +kernel) (by decide +kernel)
theorem wm_622 : Cond.methodLink "TracedCode" 136 yR_valueOf ∈ tw := tw_of 622 (by decide +kernel) (by decide +kernel)
theorem wm_623 : Cond.instanceMethod yR_valueOf ∈ tw := tw_of 623 (by decide +kernel) (by decide +kernel)
theorem wm_624 : Cond.selects "TracedCode$Run" yR_valueOf yR_valueOf ∈ tw := tw_of 624 (by decide +kernel) (by decide +kernel)
theorem wm_625 : Cond.code yR_valueOf prog_7_method_6_code 2 (some .int) ∈ tw := tw_of 625 (by decide +kernel) (by decide +kernel)
theorem wm_626 : Cond.methodLink "TracedCodeLaw" 144 yL_read ∈ tw := tw_of 626 (by decide +kernel) (by decide +kernel)
theorem wm_627 : Cond.static yL_read ∈ tw := tw_of 627 (by decide +kernel) (by decide +kernel)
theorem wm_628 : Cond.codeWith yL_read method_19_code 4 (some .int) [(0, 9, 12, 15), (0, 9, 15, 41), (0, 9, 18, 71)] ∈ tw := tw_of 628 (by decide +kernel) (by decide +kernel)
theorem wm_629 : Cond.classLink "TracedCodeLaw" 71 "java/util/NoSuchElementException" ∈ tw := tw_of 629 (by decide +kernel) (by decide +kernel)
theorem wm_630 : Cond.methodLink "TracedCodeLaw" 68 yT_read ∈ tw := tw_of 630 (by decide +kernel) (by decide +kernel)
theorem wm_631 : Cond.instanceMethod yT_read ∈ tw := tw_of 631 (by decide +kernel) (by decide +kernel)
theorem wm_632 : Cond.selects "TracedCode" yT_read yT_read ∈ tw := tw_of 632 (by decide +kernel) (by decide +kernel)
theorem wm_633 : Cond.code yT_read prog_1_method_20_code 3 (some .int) ∈ tw := tw_of 633 (by decide +kernel) (by decide +kernel)
theorem wm_634 : Cond.methodLink "TracedCode" 139 yT_requireFound ∈ tw := tw_of 634 (by decide +kernel) (by decide +kernel)
theorem wm_635 : Cond.static yT_requireFound ∈ tw := tw_of 635 (by decide +kernel) (by decide +kernel)
theorem wm_636 : Cond.code yT_requireFound prog_1_method_30_code 1 (none : Option Jvm.ClassFile.FieldType) ∈ tw := tw_of 636 (by decide +kernel) (by decide +kernel)
theorem wm_637 : Cond.classLink "TracedCode" 157 "java/util/NoSuchElementException" ∈ tw := tw_of 637 (by decide +kernel) (by decide +kernel)
theorem wm_638 : Cond.instantiable "java/util/NoSuchElementException" 6 ∈ tw := tw_of 638 (by decide +kernel) (by decide +kernel)
theorem wm_640 : Cond.selects "java/util/NoSuchElementException" (⟨"java/lang/Throwable", "fillInStackTrace", "(I)Ljava/lang/Throwable;"⟩ : MethodName) (⟨"java/lang/Throwable", "fillInStackTrace", "(I)Ljava/lang/Throwable;"⟩ : MethodName) ∈ tw := tw_of 640 (by decide +kernel) (by decide +kernel)
theorem wm_641 : Cond.lays "java/util/NoSuchElementException" "java/lang/Throwable" "cause" "Ljava/lang/Throwable;" ∈ tw := tw_of 641 (by decide +kernel) (by decide +kernel)
theorem wm_642 : Cond.lays "java/util/NoSuchElementException" "java/lang/Throwable" "stackTrace" "[Ljava/lang/StackTraceElement;" ∈ tw := tw_of 642 (by decide +kernel) (by decide +kernel)
theorem wm_643 : Cond.lays "java/util/NoSuchElementException" "java/lang/Throwable" "suppressedExceptions" "Ljava/util/List;" ∈ tw := tw_of 643 (by decide +kernel) (by decide +kernel)
theorem wm_644 : Cond.lays "java/util/NoSuchElementException" "java/lang/Throwable" "detailMessage" "Ljava/lang/String;" ∈ tw := tw_of 644 (by decide +kernel) (by decide +kernel)
theorem wm_645 : Cond.lays "java/util/NoSuchElementException" "java/lang/Throwable" "backtrace" "Ljava/lang/Object;" ∈ tw := tw_of 645 (by decide +kernel) (by decide +kernel)
theorem wm_646 : Cond.methodLink "TracedCode" 159 (⟨"java/util/NoSuchElementException", "<init>", "()V"⟩ : MethodName) ∈ tw := tw_of 646 (by decide +kernel) (by decide +kernel)
theorem wm_647 : Cond.instanceMethod (⟨"java/util/NoSuchElementException", "<init>", "()V"⟩ : MethodName) ∈ tw := tw_of 647 (by decide +kernel) (by decide +kernel)
theorem wm_648 : Cond.code (⟨"java/util/NoSuchElementException", "<init>", "()V"⟩ : MethodName) prog_19_method_1_code 1 (none : Option Jvm.ClassFile.FieldType) ∈ tw := tw_of 648 (by decide +kernel) (by decide +kernel)
theorem wm_649 : Cond.methodLink "java/util/NoSuchElementException" 1 (⟨"java/lang/RuntimeException", "<init>", "()V"⟩ : MethodName) ∈ tw := tw_of 649 (by decide +kernel) (by decide +kernel)
theorem wm_650 : Cond.lays "java/util/NoSuchElementException" "java/lang/Throwable" "depth" "I" ∈ tw := tw_of 650 (by decide +kernel) (by decide +kernel)
theorem wm_652 : Cond.methodLink "TracedCode" 142 yK_constantOfVariable ∈ tw := tw_of 652 (by decide +kernel) (by decide +kernel)
theorem wm_653 : Cond.instanceMethod yK_constantOfVariable ∈ tw := tw_of 653 (by decide +kernel) (by decide +kernel)
theorem wm_654 : Cond.selects "TracedCode$Carriers" yK_constantOfVariable yK_constantOfVariable ∈ tw := tw_of 654 (by decide +kernel) (by decide +kernel)
theorem wm_655 : Cond.code yK_constantOfVariable prog_2_method_5_code 3 (some .int) ∈ tw := tw_of 655 (by decide +kernel) (by decide +kernel)
theorem wm_656 : Cond.classLink "TracedCodeLaw" 74 "TracedCodeModel" ∈ tw := tw_of 656 (by decide +kernel) (by decide +kernel)
theorem wm_657 : Cond.instantiable "TracedCodeModel" 27 ∈ tw := tw_of 657 (by decide +kernel) (by decide +kernel)
theorem wm_658 : Cond.methodLink "TracedCodeLaw" 76 yD_init ∈ tw := tw_of 658 (by decide +kernel) (by decide +kernel)
theorem wm_659 : Cond.instanceMethod yD_init ∈ tw := tw_of 659 (by decide +kernel) (by decide +kernel)
theorem wm_660 : Cond.code yD_init prog_10_method_1_code 1 (none : Option Jvm.ClassFile.FieldType) ∈ tw := tw_of 660 (by decide +kernel) (by decide +kernel)
theorem wm_661 : Cond.methodLink "TracedCodeModel" 1 (⟨"java/lang/Object", "<init>", "()V"⟩ : MethodName) ∈ tw := tw_of 661 (by decide +kernel) (by decide +kernel)
theorem wm_662 : Cond.fieldLink "TracedCodeModel" 68 "TracedCodeModel" "code" "I" ∈ tw := tw_of 662 (by decide +kernel) (by decide +kernel)
theorem wm_663 : Cond.fieldLink "TracedCodeModel" 72 "TracedCodeModel" "lines" "I" ∈ tw := tw_of 663 (by decide +kernel) (by decide +kernel)
theorem wm_664 : Cond.fieldLink "TracedCodeModel" 7 "TracedCodeModel" "kind" "[I" ∈ tw := tw_of 664 (by decide +kernel) (by decide +kernel)
theorem wm_665 : Cond.fieldLink "TracedCodeModel" 13 "TracedCodeModel" "one" "[I" ∈ tw := tw_of 665 (by decide +kernel) (by decide +kernel)
theorem wm_666 : Cond.fieldLink "TracedCodeModel" 16 "TracedCodeModel" "two" "[I" ∈ tw := tw_of 666 (by decide +kernel) (by decide +kernel)
theorem wm_667 : Cond.fieldLink "TracedCodeModel" 19 "TracedCodeModel" "three" "[I" ∈ tw := tw_of 667 (by decide +kernel) (by decide +kernel)
theorem wm_668 : Cond.fieldLink "TracedCodeModel" 75 "TracedCodeModel" "made" "Z" ∈ tw := tw_of 668 (by decide +kernel) (by decide +kernel)
theorem wm_669 : Cond.fieldLink "TracedCodeModel" 22 "TracedCodeModel" "newTwo" "[I" ∈ tw := tw_of 669 (by decide +kernel) (by decide +kernel)
theorem wm_670 : Cond.fieldLink "TracedCodeModel" 25 "TracedCodeModel" "newThree" "[I" ∈ tw := tw_of 670 (by decide +kernel) (by decide +kernel)
theorem wm_671 : Cond.fieldLink "TracedCodeModel" 28 "TracedCodeModel" "newOne" "[I" ∈ tw := tw_of 671 (by decide +kernel) (by decide +kernel)
theorem wm_672 : Cond.fieldLink "TracedCodeModel" 31 "TracedCodeModel" "dead" "[Z" ∈ tw := tw_of 672 (by decide +kernel) (by decide +kernel)
theorem wm_673 : Cond.fieldLink "TracedCodeModel" 35 "TracedCodeModel" "reached" "[Z" ∈ tw := tw_of 673 (by decide +kernel) (by decide +kernel)
theorem wm_674 : Cond.fieldLink "TracedCodeModel" 38 "TracedCodeModel" "met" "[Z" ∈ tw := tw_of 674 (by decide +kernel) (by decide +kernel)
theorem wm_675 : Cond.fieldLink "TracedCodeModel" 41 "TracedCodeModel" "waiting" "[I" ∈ tw := tw_of 675 (by decide +kernel) (by decide +kernel)
theorem wm_676 : Cond.fieldLink "TracedCodeModel" 87 "TracedCodeModel" "left" "I" ∈ tw := tw_of 676 (by decide +kernel) (by decide +kernel)
theorem wm_677 : Cond.fieldLink "TracedCodeModel" 44 "TracedCodeModel" "lacks" "[I" ∈ tw := tw_of 677 (by decide +kernel) (by decide +kernel)
theorem wm_678 : Cond.fieldLink "TracedCodeModel" 47 "TracedCodeModel" "origins" "[I" ∈ tw := tw_of 678 (by decide +kernel) (by decide +kernel)
theorem wm_679 : Cond.fieldLink "TracedCodeModel" 50 "TracedCodeModel" "lacksThen" "[I" ∈ tw := tw_of 679 (by decide +kernel) (by decide +kernel)
theorem wm_680 : Cond.fieldLink "TracedCodeModel" 53 "TracedCodeModel" "originsThen" "[I" ∈ tw := tw_of 680 (by decide +kernel) (by decide +kernel)
theorem wm_681 : Cond.fieldLink "TracedCodeModel" 156 "TracedCodeModel" "at" "I" ∈ tw := tw_of 681 (by decide +kernel) (by decide +kernel)
theorem wm_682 : Cond.fieldLink "TracedCodeModel" 159 "TracedCodeModel" "steps" "I" ∈ tw := tw_of 682 (by decide +kernel) (by decide +kernel)
theorem wm_683 : Cond.fieldLink "TracedCodeModel" 56 "TracedCodeModel" "registers" "[I" ∈ tw := tw_of 683 (by decide +kernel) (by decide +kernel)
theorem wm_684 : Cond.fieldLink "TracedCodeModel" 59 "TracedCodeModel" "values" "[I" ∈ tw := tw_of 684 (by decide +kernel) (by decide +kernel)
theorem wm_685 : Cond.fieldLink "TracedCodeModel" 62 "TracedCodeModel" "named" "[Z" ∈ tw := tw_of 685 (by decide +kernel) (by decide +kernel)
theorem wm_686 : Cond.fieldLink "TracedCodeModel" 162 "TracedCodeModel" "outputs" "I" ∈ tw := tw_of 686 (by decide +kernel) (by decide +kernel)
theorem wm_687 : Cond.fieldLink "TracedCodeModel" 65 "TracedCodeModel" "output" "[I" ∈ tw := tw_of 687 (by decide +kernel) (by decide +kernel)
theorem wm_688 : Cond.fieldLink "TracedCodeModel" 146 "TracedCodeModel" "constant" "I" ∈ tw := tw_of 688 (by decide +kernel) (by decide +kernel)
theorem wm_689 : Cond.lays "TracedCodeModel" "TracedCodeModel" "code" "I" ∈ tw := tw_of 689 (by decide +kernel) (by decide +kernel)
theorem wm_691 : Cond.lays "TracedCodeModel" "TracedCodeModel" "lines" "I" ∈ tw := tw_of 691 (by decide +kernel) (by decide +kernel)
theorem wm_693 : Cond.laysFinal "TracedCodeModel" "TracedCodeModel" "kind" "[I" ∈ tw := tw_of 693 (by decide +kernel) (by decide +kernel)
theorem wm_695 : Cond.laysFinal "TracedCodeModel" "TracedCodeModel" "one" "[I" ∈ tw := tw_of 695 (by decide +kernel) (by decide +kernel)
theorem wm_697 : Cond.laysFinal "TracedCodeModel" "TracedCodeModel" "two" "[I" ∈ tw := tw_of 697 (by decide +kernel) (by decide +kernel)
theorem wm_699 : Cond.laysFinal "TracedCodeModel" "TracedCodeModel" "three" "[I" ∈ tw := tw_of 699 (by decide +kernel) (by decide +kernel)
theorem wm_701 : Cond.lays "TracedCodeModel" "TracedCodeModel" "made" "Z" ∈ tw := tw_of 701 (by decide +kernel) (by decide +kernel)
theorem wm_703 : Cond.laysFinal "TracedCodeModel" "TracedCodeModel" "newTwo" "[I" ∈ tw := tw_of 703 (by decide +kernel) (by decide +kernel)
theorem wm_705 : Cond.laysFinal "TracedCodeModel" "TracedCodeModel" "newThree" "[I" ∈ tw := tw_of 705 (by decide +kernel) (by decide +kernel)
theorem wm_707 : Cond.laysFinal "TracedCodeModel" "TracedCodeModel" "newOne" "[I" ∈ tw := tw_of 707 (by decide +kernel) (by decide +kernel)
theorem wm_709 : Cond.laysFinal "TracedCodeModel" "TracedCodeModel" "dead" "[Z" ∈ tw := tw_of 709 (by decide +kernel) (by decide +kernel)
theorem wm_711 : Cond.laysFinal "TracedCodeModel" "TracedCodeModel" "reached" "[Z" ∈ tw := tw_of 711 (by decide +kernel) (by decide +kernel)
theorem wm_713 : Cond.laysFinal "TracedCodeModel" "TracedCodeModel" "met" "[Z" ∈ tw := tw_of 713 (by decide +kernel) (by decide +kernel)
theorem wm_715 : Cond.laysFinal "TracedCodeModel" "TracedCodeModel" "waiting" "[I" ∈ tw := tw_of 715 (by decide +kernel) (by decide +kernel)
theorem wm_717 : Cond.lays "TracedCodeModel" "TracedCodeModel" "left" "I" ∈ tw := tw_of 717 (by decide +kernel) (by decide +kernel)
theorem wm_719 : Cond.laysFinal "TracedCodeModel" "TracedCodeModel" "lacks" "[I" ∈ tw := tw_of 719 (by decide +kernel) (by decide +kernel)
theorem wm_721 : Cond.laysFinal "TracedCodeModel" "TracedCodeModel" "origins" "[I" ∈ tw := tw_of 721 (by decide +kernel) (by decide +kernel)
theorem wm_723 : Cond.laysFinal "TracedCodeModel" "TracedCodeModel" "lacksThen" "[I" ∈ tw := tw_of 723 (by decide +kernel) (by decide +kernel)
theorem wm_725 : Cond.laysFinal "TracedCodeModel" "TracedCodeModel" "originsThen" "[I" ∈ tw := tw_of 725 (by decide +kernel) (by decide +kernel)
theorem wm_727 : Cond.lays "TracedCodeModel" "TracedCodeModel" "at" "I" ∈ tw := tw_of 727 (by decide +kernel) (by decide +kernel)
theorem wm_729 : Cond.lays "TracedCodeModel" "TracedCodeModel" "steps" "I" ∈ tw := tw_of 729 (by decide +kernel) (by decide +kernel)
theorem wm_731 : Cond.laysFinal "TracedCodeModel" "TracedCodeModel" "registers" "[I" ∈ tw := tw_of 731 (by decide +kernel) (by decide +kernel)
theorem wm_733 : Cond.laysFinal "TracedCodeModel" "TracedCodeModel" "values" "[I" ∈ tw := tw_of 733 (by decide +kernel) (by decide +kernel)
theorem wm_735 : Cond.laysFinal "TracedCodeModel" "TracedCodeModel" "named" "[Z" ∈ tw := tw_of 735 (by decide +kernel) (by decide +kernel)
theorem wm_737 : Cond.lays "TracedCodeModel" "TracedCodeModel" "outputs" "I" ∈ tw := tw_of 737 (by decide +kernel) (by decide +kernel)
theorem wm_739 : Cond.laysFinal "TracedCodeModel" "TracedCodeModel" "output" "[I" ∈ tw := tw_of 739 (by decide +kernel) (by decide +kernel)
theorem wm_741 : Cond.lays "TracedCodeModel" "TracedCodeModel" "constant" "I" ∈ tw := tw_of 741 (by decide +kernel) (by decide +kernel)
theorem wm_744 : Cond.methodLink "TracedCodeLaw" 83 yD_thrown ∈ tw := tw_of 744 (by decide +kernel) (by decide +kernel)
theorem wm_745 : Cond.instanceMethod yD_thrown ∈ tw := tw_of 745 (by decide +kernel) (by decide +kernel)
theorem wm_746 : Cond.selects "TracedCodeModel" yD_thrown yD_thrown ∈ tw := tw_of 746 (by decide +kernel) (by decide +kernel)
theorem wm_747 : Cond.code yD_thrown prog_10_method_2_code 1 (some .int) ∈ tw := tw_of 747 (by decide +kernel) (by decide +kernel)
theorem wm_748 : Cond.methodLink "TracedCodeLaw" 82 yD_set ∈ tw := tw_of 748 (by decide +kernel) (by decide +kernel)
theorem wm_749 : Cond.instanceMethod yD_set ∈ tw := tw_of 749 (by decide +kernel) (by decide +kernel)
theorem wm_750 : Cond.selects "TracedCodeModel" yD_set yD_set ∈ tw := tw_of 750 (by decide +kernel) (by decide +kernel)
theorem wm_751 : Cond.code yD_set prog_10_method_5_code 3 (some .int) ∈ tw := tw_of 751 (by decide +kernel) (by decide +kernel)
theorem wm_752 : Cond.methodLink "TracedCodeModel" 79 yD_noRegister ∈ tw := tw_of 752 (by decide +kernel) (by decide +kernel)
theorem wm_753 : Cond.static yD_noRegister ∈ tw := tw_of 753 (by decide +kernel) (by decide +kernel)
theorem wm_754 : Cond.code yD_noRegister prog_10_method_3_code 1 (some .boolean) ∈ tw := tw_of 754 (by decide +kernel) (by decide +kernel)
theorem wm_755 : Cond.methodLink "TracedCodeModel" 83 yD_newLine ∈ tw := tw_of 755 (by decide +kernel) (by decide +kernel)
theorem wm_757 : Cond.instanceMethod yD_newLine ∈ tw := tw_of 757 (by decide +kernel) (by decide +kernel)
theorem wm_758 : Cond.code yD_newLine prog_10_method_4_code 5 (some .int) ∈ tw := tw_of 758 (by decide +kernel) (by decide +kernel)
theorem wm_759 : Cond.methodLink "TracedCodeLaw" 88 yD_copy ∈ tw := tw_of 759 (by decide +kernel) (by decide +kernel)
theorem wm_760 : Cond.instanceMethod yD_copy ∈ tw := tw_of 760 (by decide +kernel) (by decide +kernel)
theorem wm_761 : Cond.selects "TracedCodeModel" yD_copy yD_copy ∈ tw := tw_of 761 (by decide +kernel) (by decide +kernel)
theorem wm_762 : Cond.code yD_copy prog_10_method_6_code 3 (some .int) ∈ tw := tw_of 762 (by decide +kernel) (by decide +kernel)
theorem wm_763 : Cond.methodLink "TracedCodeLaw" 92 yD_add ∈ tw := tw_of 763 (by decide +kernel) (by decide +kernel)
theorem wm_764 : Cond.instanceMethod yD_add ∈ tw := tw_of 764 (by decide +kernel) (by decide +kernel)
theorem wm_765 : Cond.selects "TracedCodeModel" yD_add yD_add ∈ tw := tw_of 765 (by decide +kernel) (by decide +kernel)
theorem wm_766 : Cond.code yD_add prog_10_method_7_code 4 (some .int) ∈ tw := tw_of 766 (by decide +kernel) (by decide +kernel)
theorem wm_767 : Cond.methodLink "TracedCodeLaw" 96 yD_out ∈ tw := tw_of 767 (by decide +kernel) (by decide +kernel)
theorem wm_768 : Cond.instanceMethod yD_out ∈ tw := tw_of 768 (by decide +kernel) (by decide +kernel)
theorem wm_769 : Cond.selects "TracedCodeModel" yD_out yD_out ∈ tw := tw_of 769 (by decide +kernel) (by decide +kernel)
theorem wm_770 : Cond.code yD_out prog_10_method_8_code 2 (some .int) ∈ tw := tw_of 770 (by decide +kernel) (by decide +kernel)
theorem wm_771 : Cond.methodLink "TracedCodeLaw" 99 yD_jump ∈ tw := tw_of 771 (by decide +kernel) (by decide +kernel)
theorem wm_772 : Cond.instanceMethod yD_jump ∈ tw := tw_of 772 (by decide +kernel) (by decide +kernel)
theorem wm_773 : Cond.selects "TracedCodeModel" yD_jump yD_jump ∈ tw := tw_of 773 (by decide +kernel) (by decide +kernel)
theorem wm_774 : Cond.code yD_jump prog_10_method_9_code 3 (some .int) ∈ tw := tw_of 774 (by decide +kernel) (by decide +kernel)
theorem wm_775 : Cond.methodLink "TracedCodeLaw" 102 yD_name ∈ tw := tw_of 775 (by decide +kernel) (by decide +kernel)
theorem wm_776 : Cond.instanceMethod yD_name ∈ tw := tw_of 776 (by decide +kernel) (by decide +kernel)
theorem wm_777 : Cond.selects "TracedCodeModel" yD_name yD_name ∈ tw := tw_of 777 (by decide +kernel) (by decide +kernel)
theorem wm_778 : Cond.code yD_name prog_10_method_10_code 3 (some .int) ∈ tw := tw_of 778 (by decide +kernel) (by decide +kernel)
theorem wm_779 : Cond.methodLink "TracedCodeLaw" 106 yD_clear ∈ tw := tw_of 779 (by decide +kernel) (by decide +kernel)
theorem wm_780 : Cond.instanceMethod yD_clear ∈ tw := tw_of 780 (by decide +kernel) (by decide +kernel)
theorem wm_781 : Cond.selects "TracedCodeModel" yD_clear yD_clear ∈ tw := tw_of 781 (by decide +kernel) (by decide +kernel)
theorem wm_782 : Cond.code yD_clear prog_10_method_11_code 1 (none : Option Jvm.ClassFile.FieldType) ∈ tw := tw_of 782 (by decide +kernel) (by decide +kernel)
theorem wm_783 : Cond.methodLink "TracedCodeLaw" 110 yD_shorten ∈ tw := tw_of 783 (by decide +kernel) (by decide +kernel)
theorem wm_784 : Cond.instanceMethod yD_shorten ∈ tw := tw_of 784 (by decide +kernel) (by decide +kernel)
theorem wm_785 : Cond.selects "TracedCodeModel" yD_shorten yD_shorten ∈ tw := tw_of 785 (by decide +kernel) (by decide +kernel)
theorem wm_786 : Cond.code yD_shorten prog_10_method_27_code 5 (some .int) ∈ tw := tw_of 786 (by decide +kernel) (by decide +kernel)
theorem wm_787 : Cond.methodLink "TracedCodeModel" 130 yD_reach ∈ tw := tw_of 787 (by decide +kernel) (by decide +kernel)
theorem wm_789 : Cond.instanceMethod yD_reach ∈ tw := tw_of 789 (by decide +kernel) (by decide +kernel)
theorem wm_790 : Cond.code yD_reach prog_10_method_15_code 2 (none : Option Jvm.ClassFile.FieldType) ∈ tw := tw_of 790 (by decide +kernel) (by decide +kernel)
theorem wm_791 : Cond.methodLink "TracedCodeModel" 90 yD_forget ∈ tw := tw_of 791 (by decide +kernel) (by decide +kernel)
theorem wm_793 : Cond.instanceMethod yD_forget ∈ tw := tw_of 793 (by decide +kernel) (by decide +kernel)
theorem wm_794 : Cond.code yD_forget prog_10_method_14_code 2 (none : Option Jvm.ClassFile.FieldType) ∈ tw := tw_of 794 (by decide +kernel) (by decide +kernel)
theorem wm_795 : Cond.methodLink "TracedCodeModel" 93 yD_meet ∈ tw := tw_of 795 (by decide +kernel) (by decide +kernel)
theorem wm_797 : Cond.instanceMethod yD_meet ∈ tw := tw_of 797 (by decide +kernel) (by decide +kernel)
theorem wm_798 : Cond.code yD_meet prog_10_method_13_code 2 (none : Option Jvm.ClassFile.FieldType) ∈ tw := tw_of 798 (by decide +kernel) (by decide +kernel)
theorem wm_799 : Cond.methodLink "TracedCodeModel" 97 yD_targetOf ∈ tw := tw_of 799 (by decide +kernel) (by decide +kernel)
theorem wm_801 : Cond.instanceMethod yD_targetOf ∈ tw := tw_of 801 (by decide +kernel) (by decide +kernel)
theorem wm_802 : Cond.code yD_targetOf prog_10_method_12_code 2 (some .int) ∈ tw := tw_of 802 (by decide +kernel) (by decide +kernel)
theorem wm_803 : Cond.methodLink "TracedCodeModel" 133 yD_passOn ∈ tw := tw_of 803 (by decide +kernel) (by decide +kernel)
theorem wm_805 : Cond.instanceMethod yD_passOn ∈ tw := tw_of 805 (by decide +kernel) (by decide +kernel)
theorem wm_806 : Cond.code yD_passOn prog_10_method_19_code 4 (some .boolean) ∈ tw := tw_of 806 (by decide +kernel) (by decide +kernel)
theorem wm_807 : Cond.methodLink "TracedCodeModel" 105 yD_follow ∈ tw := tw_of 807 (by decide +kernel) (by decide +kernel)
theorem wm_809 : Cond.instanceMethod yD_follow ∈ tw := tw_of 809 (by decide +kernel) (by decide +kernel)
theorem wm_810 : Cond.code yD_follow prog_10_method_17_code 8 (none : Option Jvm.ClassFile.FieldType) ∈ tw := tw_of 810 (by decide +kernel) (by decide +kernel)
theorem wm_811 : Cond.methodLink "TracedCodeModel" 101 yD_writes ∈ tw := tw_of 811 (by decide +kernel) (by decide +kernel)
theorem wm_813 : Cond.instanceMethod yD_writes ∈ tw := tw_of 813 (by decide +kernel) (by decide +kernel)
theorem wm_814 : Cond.code yD_writes prog_10_method_16_code 3 (some .boolean) ∈ tw := tw_of 814 (by decide +kernel) (by decide +kernel)
theorem wm_815 : Cond.methodLink "TracedCodeModel" 109 yD_replace ∈ tw := tw_of 815 (by decide +kernel) (by decide +kernel)
theorem wm_817 : Cond.instanceMethod yD_replace ∈ tw := tw_of 817 (by decide +kernel) (by decide +kernel)
theorem wm_818 : Cond.code yD_replace prog_10_method_18_code 5 (none : Option Jvm.ClassFile.FieldType) ∈ tw := tw_of 818 (by decide +kernel) (by decide +kernel)
theorem wm_819 : Cond.methodLink "TracedCodeModel" 113 yD_empty ∈ tw := tw_of 819 (by decide +kernel) (by decide +kernel)
theorem wm_821 : Cond.instanceMethod yD_empty ∈ tw := tw_of 821 (by decide +kernel) (by decide +kernel)
theorem wm_822 : Cond.code yD_empty prog_10_method_20_code 2 (none : Option Jvm.ClassFile.FieldType) ∈ tw := tw_of 822 (by decide +kernel) (by decide +kernel)
theorem wm_823 : Cond.methodLink "TracedCodeModel" 137 yD_leaveOut ∈ tw := tw_of 823 (by decide +kernel) (by decide +kernel)
theorem wm_825 : Cond.instanceMethod yD_leaveOut ∈ tw := tw_of 825 (by decide +kernel) (by decide +kernel)
theorem wm_826 : Cond.code yD_leaveOut prog_10_method_23_code 3 (some .boolean) ∈ tw := tw_of 826 (by decide +kernel) (by decide +kernel)
theorem wm_827 : Cond.methodLink "TracedCodeModel" 119 yD_isLive ∈ tw := tw_of 827 (by decide +kernel) (by decide +kernel)
theorem wm_829 : Cond.instanceMethod yD_isLive ∈ tw := tw_of 829 (by decide +kernel) (by decide +kernel)
theorem wm_830 : Cond.code yD_isLive prog_10_method_22_code 4 (some .boolean) ∈ tw := tw_of 830 (by decide +kernel) (by decide +kernel)
theorem wm_831 : Cond.methodLink "TracedCodeModel" 116 yD_uses ∈ tw := tw_of 831 (by decide +kernel) (by decide +kernel)
theorem wm_833 : Cond.instanceMethod yD_uses ∈ tw := tw_of 833 (by decide +kernel) (by decide +kernel)
theorem wm_834 : Cond.code yD_uses prog_10_method_21_code 4 (some .boolean) ∈ tw := tw_of 834 (by decide +kernel) (by decide +kernel)
theorem wm_835 : Cond.methodLink "TracedCodeModel" 140 yD_findCarriers ∈ tw := tw_of 835 (by decide +kernel) (by decide +kernel)
theorem wm_837 : Cond.instanceMethod yD_findCarriers ∈ tw := tw_of 837 (by decide +kernel) (by decide +kernel)
theorem wm_838 : Cond.code yD_findCarriers prog_10_method_26_code 5 (none : Option Jvm.ClassFile.FieldType) ∈ tw := tw_of 838 (by decide +kernel) (by decide +kernel)
theorem wm_839 : Cond.constant "TracedCodeModel" 122 65536 ∈ tw := tw_of 839 (by decide +kernel) (by decide +kernel)
theorem wm_840 : Cond.constant "TracedCodeModel" 123 131072 ∈ tw := tw_of 840 (by decide +kernel) (by decide +kernel)
theorem wm_841 : Cond.methodLink "TracedCodeModel" 124 yD_pass ∈ tw := tw_of 841 (by decide +kernel) (by decide +kernel)
theorem wm_843 : Cond.instanceMethod yD_pass ∈ tw := tw_of 843 (by decide +kernel) (by decide +kernel)
theorem wm_844 : Cond.code yD_pass prog_10_method_24_code 7 (none : Option Jvm.ClassFile.FieldType) ∈ tw := tw_of 844 (by decide +kernel) (by decide +kernel)
theorem wm_845 : Cond.methodLink "TracedCodeModel" 127 yD_spread ∈ tw := tw_of 845 (by decide +kernel) (by decide +kernel)
theorem wm_847 : Cond.instanceMethod yD_spread ∈ tw := tw_of 847 (by decide +kernel) (by decide +kernel)
theorem wm_848 : Cond.code yD_spread prog_10_method_25_code 6 (some .boolean) ∈ tw := tw_of 848 (by decide +kernel) (by decide +kernel)
theorem wm_849 : Cond.methodLink "TracedCodeModel" 143 yD_begin ∈ tw := tw_of 849 (by decide +kernel) (by decide +kernel)
theorem wm_851 : Cond.instanceMethod yD_begin ∈ tw := tw_of 851 (by decide +kernel) (by decide +kernel)
theorem wm_852 : Cond.code yD_begin prog_10_method_34_code 2 (none : Option Jvm.ClassFile.FieldType) ∈ tw := tw_of 852 (by decide +kernel) (by decide +kernel)
theorem wm_853 : Cond.methodLink "TracedCodeLaw" 114 yD_kept ∈ tw := tw_of 853 (by decide +kernel) (by decide +kernel)
theorem wm_854 : Cond.instanceMethod yD_kept ∈ tw := tw_of 854 (by decide +kernel) (by decide +kernel)
theorem wm_855 : Cond.selects "TracedCodeModel" yD_kept yD_kept ∈ tw := tw_of 855 (by decide +kernel) (by decide +kernel)
theorem wm_856 : Cond.code yD_kept prog_10_method_28_code 3 (some .int) ∈ tw := tw_of 856 (by decide +kernel) (by decide +kernel)
theorem wm_857 : Cond.methodLink "TracedCodeLaw" 117 yD_part ∈ tw := tw_of 857 (by decide +kernel) (by decide +kernel)
theorem wm_858 : Cond.instanceMethod yD_part ∈ tw := tw_of 858 (by decide +kernel) (by decide +kernel)
theorem wm_859 : Cond.selects "TracedCodeModel" yD_part yD_part ∈ tw := tw_of 859 (by decide +kernel) (by decide +kernel)
theorem wm_860 : Cond.code yD_part prog_10_method_29_code 4 (some .int) ∈ tw := tw_of 860 (by decide +kernel) (by decide +kernel)
theorem wm_861 : Cond.methodLink "TracedCodeLaw" 120 yD_where ∈ tw := tw_of 861 (by decide +kernel) (by decide +kernel)
theorem wm_862 : Cond.instanceMethod yD_where ∈ tw := tw_of 862 (by decide +kernel) (by decide +kernel)
theorem wm_863 : Cond.selects "TracedCodeModel" yD_where yD_where ∈ tw := tw_of 863 (by decide +kernel) (by decide +kernel)
theorem wm_864 : Cond.code yD_where prog_10_method_32_code 3 (some .int) ∈ tw := tw_of 864 (by decide +kernel) (by decide +kernel)
theorem wm_865 : Cond.methodLink "TracedCodeModel" 152 yD_placeOf ∈ tw := tw_of 865 (by decide +kernel) (by decide +kernel)
theorem wm_867 : Cond.instanceMethod yD_placeOf ∈ tw := tw_of 867 (by decide +kernel) (by decide +kernel)
theorem wm_868 : Cond.code yD_placeOf prog_10_method_31_code 5 (some .int) ∈ tw := tw_of 868 (by decide +kernel) (by decide +kernel)
theorem wm_869 : Cond.methodLink "TracedCodeModel" 149 yD_isConstant ∈ tw := tw_of 869 (by decide +kernel) (by decide +kernel)
theorem wm_871 : Cond.instanceMethod yD_isConstant ∈ tw := tw_of 871 (by decide +kernel) (by decide +kernel)
theorem wm_872 : Cond.code yD_isConstant prog_10_method_30_code 5 (some .boolean) ∈ tw := tw_of 872 (by decide +kernel) (by decide +kernel)
theorem wm_873 : Cond.methodLink "TracedCodeLaw" 123 yD_carriers ∈ tw := tw_of 873 (by decide +kernel) (by decide +kernel)
theorem wm_874 : Cond.instanceMethod yD_carriers ∈ tw := tw_of 874 (by decide +kernel) (by decide +kernel)
theorem wm_875 : Cond.selects "TracedCodeModel" yD_carriers yD_carriers ∈ tw := tw_of 875 (by decide +kernel) (by decide +kernel)
theorem wm_876 : Cond.code yD_carriers prog_10_method_33_code 3 (some .int) ∈ tw := tw_of 876 (by decide +kernel) (by decide +kernel)
theorem wm_877 : Cond.methodLink "TracedCodeLaw" 127 yD_restart ∈ tw := tw_of 877 (by decide +kernel) (by decide +kernel)
theorem wm_878 : Cond.instanceMethod yD_restart ∈ tw := tw_of 878 (by decide +kernel) (by decide +kernel)
theorem wm_879 : Cond.selects "TracedCodeModel" yD_restart yD_restart ∈ tw := tw_of 879 (by decide +kernel) (by decide +kernel)
theorem wm_880 : Cond.code yD_restart prog_10_method_35_code 1 (none : Option Jvm.ClassFile.FieldType) ∈ tw := tw_of 880 (by decide +kernel) (by decide +kernel)
theorem wm_881 : Cond.methodLink "TracedCodeLaw" 130 yD_step ∈ tw := tw_of 881 (by decide +kernel) (by decide +kernel)
theorem wm_882 : Cond.instanceMethod yD_step ∈ tw := tw_of 882 (by decide +kernel) (by decide +kernel)
theorem wm_883 : Cond.selects "TracedCodeModel" yD_step yD_step ∈ tw := tw_of 883 (by decide +kernel) (by decide +kernel)
theorem wm_884 : Cond.code yD_step prog_10_method_37_code 4 (some .int) ∈ tw := tw_of 884 (by decide +kernel) (by decide +kernel)
theorem wm_885 : Cond.methodLink "TracedCodeModel" 165 yD_does ∈ tw := tw_of 885 (by decide +kernel) (by decide +kernel)
theorem wm_887 : Cond.instanceMethod yD_does ∈ tw := tw_of 887 (by decide +kernel) (by decide +kernel)
theorem wm_888 : Cond.code yD_does prog_10_method_36_code 4 (some .boolean) ∈ tw := tw_of 888 (by decide +kernel) (by decide +kernel)
theorem wm_889 : Cond.methodLink "TracedCodeLaw" 133 yD_line ∈ tw := tw_of 889 (by decide +kernel) (by decide +kernel)
theorem wm_890 : Cond.instanceMethod yD_line ∈ tw := tw_of 890 (by decide +kernel) (by decide +kernel)
theorem wm_891 : Cond.selects "TracedCodeModel" yD_line yD_line ∈ tw := tw_of 891 (by decide +kernel) (by decide +kernel)
theorem wm_892 : Cond.code yD_line prog_10_method_38_code 1 (some .int) ∈ tw := tw_of 892 (by decide +kernel) (by decide +kernel)
theorem wm_893 : Cond.methodLink "TracedCodeLaw" 137 yD_register ∈ tw := tw_of 893 (by decide +kernel) (by decide +kernel)
theorem wm_894 : Cond.instanceMethod yD_register ∈ tw := tw_of 894 (by decide +kernel) (by decide +kernel)
theorem wm_895 : Cond.selects "TracedCodeModel" yD_register yD_register ∈ tw := tw_of 895 (by decide +kernel) (by decide +kernel)
theorem wm_896 : Cond.code yD_register prog_10_method_39_code 3 (some .int) ∈ tw := tw_of 896 (by decide +kernel) (by decide +kernel)
theorem wm_897 : Cond.methodLink "TracedCodeLaw" 140 yD_output ∈ tw := tw_of 897 (by decide +kernel) (by decide +kernel)
theorem wm_898 : Cond.instanceMethod yD_output ∈ tw := tw_of 898 (by decide +kernel) (by decide +kernel)
theorem wm_899 : Cond.selects "TracedCodeModel" yD_output yD_output ∈ tw := tw_of 899 (by decide +kernel) (by decide +kernel)
theorem wm_900 : Cond.code yD_output prog_10_method_40_code 3 (some .int) ∈ tw := tw_of 900 (by decide +kernel) (by decide +kernel)
theorem wm_901 : Cond.methodLink "TracedCodeLaw" 143 yD_value ∈ tw := tw_of 901 (by decide +kernel) (by decide +kernel)
theorem wm_902 : Cond.instanceMethod yD_value ∈ tw := tw_of 902 (by decide +kernel) (by decide +kernel)
theorem wm_903 : Cond.selects "TracedCodeModel" yD_value yD_value ∈ tw := tw_of 903 (by decide +kernel) (by decide +kernel)
theorem wm_904 : Cond.code yD_value prog_10_method_41_code 2 (some .int) ∈ tw := tw_of 904 (by decide +kernel) (by decide +kernel)
theorem wm_905 : Cond.methodLink "TracedCodeLaw" 146 yD_read ∈ tw := tw_of 905 (by decide +kernel) (by decide +kernel)
theorem wm_906 : Cond.instanceMethod yD_read ∈ tw := tw_of 906 (by decide +kernel) (by decide +kernel)
theorem wm_907 : Cond.selects "TracedCodeModel" yD_read yD_read ∈ tw := tw_of 907 (by decide +kernel) (by decide +kernel)
theorem wm_908 : Cond.code yD_read prog_10_method_42_code 4 (some .int) ∈ tw := tw_of 908 (by decide +kernel) (by decide +kernel)
theorem wm_909 : Cond.arrayClass .long ∈ tw := tw_of 909 (by decide +kernel) (by decide +kernel)
theorem wm_910 : Cond.sameMethod "java/lang/Throwable" "java/lang/Throwable" "fillInStackTrace" "(I)Ljava/lang/Throwable;" ∈ tw := tw_of 910 (by decide +kernel) (by decide +kernel)
theorem ws_S_passCopiesOn : Cond.selects "TracedCode$Shortener" yS_passCopiesOn yS_passCopiesOn ∈ tw := tw_sel 0 (by decide +kernel) (by decide +kernel)
theorem ws_S_passOneOn : Cond.selects "TracedCode$Shortener" yS_passOneOn yS_passOneOn ∈ tw := tw_sel 1 (by decide +kernel) (by decide +kernel)
theorem ws_S_leaveOutDead : Cond.selects "TracedCode$Shortener" yS_leaveOutDead yS_leaveOutDead ∈ tw := tw_sel 2 (by decide +kernel) (by decide +kernel)
theorem ws_S_findLive : Cond.selects "TracedCode$Shortener" yS_findLive yS_findLive ∈ tw := tw_sel 3 (by decide +kernel) (by decide +kernel)
theorem ws_S_liveBefore : Cond.selects "TracedCode$Shortener" yS_liveBefore yS_liveBefore ∈ tw := tw_sel 4 (by decide +kernel) (by decide +kernel)
theorem ws_S_liveBehind : Cond.selects "TracedCode$Shortener" yS_liveBehind yS_liveBehind ∈ tw := tw_sel 5 (by decide +kernel) (by decide +kernel)
theorem ws_T_newLine : Cond.selects "TracedCode" yT_newLine yT_newLine ∈ tw := tw_sel 7 (by decide +kernel) (by decide +kernel)
theorem ws_T_requireShortProgram : Cond.selects "TracedCode" yT_requireShortProgram yT_requireShortProgram ∈ tw := tw_sel 8 (by decide +kernel) (by decide +kernel)
theorem ws_T_isPoint : Cond.selects "TracedCode" yT_isPoint yT_isPoint ∈ tw := tw_sel 9 (by decide +kernel) (by decide +kernel)
theorem ws_R_giveValue : Cond.selects "TracedCode$Run" yR_giveValue yR_giveValue ∈ tw := tw_sel 10 (by decide +kernel) (by decide +kernel)
theorem ws_M_putOut : Cond.selects "TracedCode$Machine" yM_putOut yM_putOut ∈ tw := tw_sel 11 (by decide +kernel) (by decide +kernel)
theorem ws_D_newLine : Cond.selects "TracedCodeModel" yD_newLine yD_newLine ∈ tw := tw_sel 12 (by decide +kernel) (by decide +kernel)
theorem ws_D_reach : Cond.selects "TracedCodeModel" yD_reach yD_reach ∈ tw := tw_sel 13 (by decide +kernel) (by decide +kernel)
theorem ws_D_forget : Cond.selects "TracedCodeModel" yD_forget yD_forget ∈ tw := tw_sel 14 (by decide +kernel) (by decide +kernel)
theorem ws_D_meet : Cond.selects "TracedCodeModel" yD_meet yD_meet ∈ tw := tw_sel 15 (by decide +kernel) (by decide +kernel)
theorem ws_D_targetOf : Cond.selects "TracedCodeModel" yD_targetOf yD_targetOf ∈ tw := tw_sel 16 (by decide +kernel) (by decide +kernel)
theorem ws_D_passOn : Cond.selects "TracedCodeModel" yD_passOn yD_passOn ∈ tw := tw_sel 17 (by decide +kernel) (by decide +kernel)
theorem ws_D_follow : Cond.selects "TracedCodeModel" yD_follow yD_follow ∈ tw := tw_sel 18 (by decide +kernel) (by decide +kernel)
theorem ws_D_writes : Cond.selects "TracedCodeModel" yD_writes yD_writes ∈ tw := tw_sel 19 (by decide +kernel) (by decide +kernel)
theorem ws_D_replace : Cond.selects "TracedCodeModel" yD_replace yD_replace ∈ tw := tw_sel 20 (by decide +kernel) (by decide +kernel)
theorem ws_D_empty : Cond.selects "TracedCodeModel" yD_empty yD_empty ∈ tw := tw_sel 21 (by decide +kernel) (by decide +kernel)
theorem ws_D_leaveOut : Cond.selects "TracedCodeModel" yD_leaveOut yD_leaveOut ∈ tw := tw_sel 22 (by decide +kernel) (by decide +kernel)
theorem ws_D_isLive : Cond.selects "TracedCodeModel" yD_isLive yD_isLive ∈ tw := tw_sel 23 (by decide +kernel) (by decide +kernel)
theorem ws_D_uses : Cond.selects "TracedCodeModel" yD_uses yD_uses ∈ tw := tw_sel 24 (by decide +kernel) (by decide +kernel)
theorem ws_D_findCarriers : Cond.selects "TracedCodeModel" yD_findCarriers yD_findCarriers ∈ tw := tw_sel 25 (by decide +kernel) (by decide +kernel)
theorem ws_D_pass : Cond.selects "TracedCodeModel" yD_pass yD_pass ∈ tw := tw_sel 26 (by decide +kernel) (by decide +kernel)
theorem ws_D_spread : Cond.selects "TracedCodeModel" yD_spread yD_spread ∈ tw := tw_sel 27 (by decide +kernel) (by decide +kernel)
theorem ws_D_begin : Cond.selects "TracedCodeModel" yD_begin yD_begin ∈ tw := tw_sel 28 (by decide +kernel) (by decide +kernel)
theorem ws_D_placeOf : Cond.selects "TracedCodeModel" yD_placeOf yD_placeOf ∈ tw := tw_sel 29 (by decide +kernel) (by decide +kernel)
theorem ws_D_isConstant : Cond.selects "TracedCodeModel" yD_isConstant yD_isConstant ∈ tw := tw_sel 30 (by decide +kernel) (by decide +kernel)
theorem ws_D_does : Cond.selects "TracedCodeModel" yD_does yD_does ∈ tw := tw_sel 31 (by decide +kernel) (by decide +kernel)
theorem uwT_ : ∀ w ∈ u_ws "TracedCode" TT_ 6, w ∈ tw := by
  rw [show u_ws "TracedCode" TT_ 6 = [Cond.laysFinal "TracedCode" "TracedCode" "program" "LTracedCode$Code;", Cond.laysFinal "TracedCode" "TracedCode" "shortProgram" "LTracedCode$Code;", Cond.laysFinal "TracedCode" "TracedCode" "shortener" "LTracedCode$Shortener;", Cond.laysFinal "TracedCode" "TracedCode" "carrierLists" "LTracedCode$Carriers;", Cond.laysFinal "TracedCode" "TracedCode" "run" "LTracedCode$Run;", Cond.lays "TracedCode" "TracedCode" "shortened" "Z"] from by decide +kernel]
  exact List.forall_mem_cons.mpr ⟨wm_141, List.forall_mem_cons.mpr ⟨wm_143, List.forall_mem_cons.mpr ⟨wm_145, List.forall_mem_cons.mpr ⟨wm_147, List.forall_mem_cons.mpr ⟨wm_149, List.forall_mem_cons.mpr ⟨wm_151, fun _ h => absurd h List.not_mem_nil⟩⟩⟩⟩⟩⟩
theorem uwC_ : ∀ w ∈ u_ws "TracedCode$Code" TC_ 2, w ∈ tw := by
  rw [show u_ws "TracedCode$Code" TC_ 2 = [Cond.laysFinal "TracedCode$Code" "TracedCode$Code" "numbers" "[[I", Cond.lays "TracedCode$Code" "TracedCode$Code" "size" "I"] from by decide +kernel]
  exact List.forall_mem_cons.mpr ⟨wm_37, List.forall_mem_cons.mpr ⟨wm_39, fun _ h => absurd h List.not_mem_nil⟩⟩
theorem uwF_ : ∀ w ∈ u_ws "TracedCode$Facts" TF_ 0, w ∈ tw := by
  rw [show u_ws "TracedCode$Facts" TF_ 0 = [] from by decide +kernel]
  exact fun _ h => absurd h List.not_mem_nil
theorem uwP_ : ∀ w ∈ u_ws "TracedCode$Copies" TP_ 2, w ∈ tw := by
  rw [show u_ws "TracedCode$Copies" TP_ 2 = [Cond.laysFinal "TracedCode$Copies" "TracedCode$Copies" "origins" "[[I", Cond.laysFinal "TracedCode$Copies" "TracedCode$Copies" "behind" "[I"] from by decide +kernel]
  exact List.forall_mem_cons.mpr ⟨wm_61, List.forall_mem_cons.mpr ⟨wm_63, fun _ h => absurd h List.not_mem_nil⟩⟩
theorem uwK_ : ∀ w ∈ u_ws "TracedCode$Carriers" TK_ 4, w ∈ tw := by
  rw [show u_ws "TracedCode$Carriers" TK_ 4 = [Cond.laysFinal "TracedCode$Carriers" "TracedCode$Carriers" "marks" "[[I", Cond.laysFinal "TracedCode$Carriers" "TracedCode$Carriers" "constants" "[[I", Cond.laysFinal "TracedCode$Carriers" "TracedCode$Carriers" "marksBehind" "[I", Cond.laysFinal "TracedCode$Carriers" "TracedCode$Carriers" "constantsBehind" "[I"] from by decide +kernel]
  exact List.forall_mem_cons.mpr ⟨wm_84, List.forall_mem_cons.mpr ⟨wm_86, List.forall_mem_cons.mpr ⟨wm_88, List.forall_mem_cons.mpr ⟨wm_90, fun _ h => absurd h List.not_mem_nil⟩⟩⟩⟩
theorem uwM_ : ∀ w ∈ u_ws "TracedCode$Machine" TM_ 3, w ∈ tw := by
  rw [show u_ws "TracedCode$Machine" TM_ 3 = [Cond.laysFinal "TracedCode$Machine" "TracedCode$Machine" "contents" "[I", Cond.laysFinal "TracedCode$Machine" "TracedCode$Machine" "outputs" "[I", Cond.lays "TracedCode$Machine" "TracedCode$Machine" "outputCount" "I"] from by decide +kernel]
  exact List.forall_mem_cons.mpr ⟨wm_108, List.forall_mem_cons.mpr ⟨wm_110, List.forall_mem_cons.mpr ⟨wm_112, fun _ h => absurd h List.not_mem_nil⟩⟩⟩
theorem uwR_ : ∀ w ∈ u_ws "TracedCode$Run" TR_ 6, w ∈ tw := by
  rw [show u_ws "TracedCode$Run" TR_ 6 = [Cond.laysFinal "TracedCode$Run" "TracedCode$Run" "whole" "LTracedCode$Machine;", Cond.laysFinal "TracedCode$Run" "TracedCode$Run" "brief" "LTracedCode$Machine;", Cond.laysFinal "TracedCode$Run" "TracedCode$Run" "values" "[I", Cond.laysFinal "TracedCode$Run" "TracedCode$Run" "valued" "[Z", Cond.lays "TracedCode$Run" "TracedCode$Run" "position" "I", Cond.lays "TracedCode$Run" "TracedCode$Run" "steps" "I"] from by decide +kernel]
  exact List.forall_mem_cons.mpr ⟨wm_121, List.forall_mem_cons.mpr ⟨wm_123, List.forall_mem_cons.mpr ⟨wm_125, List.forall_mem_cons.mpr ⟨wm_127, List.forall_mem_cons.mpr ⟨wm_129, List.forall_mem_cons.mpr ⟨wm_131, fun _ h => absurd h List.not_mem_nil⟩⟩⟩⟩⟩⟩
theorem uwS_ : ∀ w ∈ u_ws "TracedCode$Shortener" TS_ 2, w ∈ tw := by
  rw [show u_ws "TracedCode$Shortener" TS_ 2 = [Cond.laysFinal "TracedCode$Shortener" "TracedCode$Shortener" "copies" "LTracedCode$Copies;", Cond.laysFinal "TracedCode$Shortener" "TracedCode$Shortener" "live" "[I"] from by decide +kernel]
  exact List.forall_mem_cons.mpr ⟨wm_68, List.forall_mem_cons.mpr ⟨wm_70, fun _ h => absurd h List.not_mem_nil⟩⟩
theorem uwD_ : ∀ w ∈ u_ws "TracedCodeModel" TD_ 27, w ∈ tw := by
  rw [show u_ws "TracedCodeModel" TD_ 27 = [Cond.lays "TracedCodeModel" "TracedCodeModel" "code" "I", Cond.lays "TracedCodeModel" "TracedCodeModel" "lines" "I", Cond.laysFinal "TracedCodeModel" "TracedCodeModel" "kind" "[I", Cond.laysFinal "TracedCodeModel" "TracedCodeModel" "one" "[I", Cond.laysFinal "TracedCodeModel" "TracedCodeModel" "two" "[I", Cond.laysFinal "TracedCodeModel" "TracedCodeModel" "three" "[I", Cond.lays "TracedCodeModel" "TracedCodeModel" "made" "Z", Cond.laysFinal "TracedCodeModel" "TracedCodeModel" "newTwo" "[I", Cond.laysFinal "TracedCodeModel" "TracedCodeModel" "newThree" "[I", Cond.laysFinal "TracedCodeModel" "TracedCodeModel" "newOne" "[I", Cond.laysFinal "TracedCodeModel" "TracedCodeModel" "dead" "[Z", Cond.laysFinal "TracedCodeModel" "TracedCodeModel" "reached" "[Z", Cond.laysFinal "TracedCodeModel" "TracedCodeModel" "met" "[Z", Cond.laysFinal "TracedCodeModel" "TracedCodeModel" "waiting" "[I", Cond.lays "TracedCodeModel" "TracedCodeModel" "left" "I", Cond.laysFinal "TracedCodeModel" "TracedCodeModel" "lacks" "[I", Cond.laysFinal "TracedCodeModel" "TracedCodeModel" "origins" "[I", Cond.laysFinal "TracedCodeModel" "TracedCodeModel" "lacksThen" "[I", Cond.laysFinal "TracedCodeModel" "TracedCodeModel" "originsThen" "[I", Cond.lays "TracedCodeModel" "TracedCodeModel" "at" "I", Cond.lays "TracedCodeModel" "TracedCodeModel" "steps" "I", Cond.laysFinal "TracedCodeModel" "TracedCodeModel" "registers" "[I", Cond.laysFinal "TracedCodeModel" "TracedCodeModel" "values" "[I", Cond.laysFinal "TracedCodeModel" "TracedCodeModel" "named" "[Z", Cond.lays "TracedCodeModel" "TracedCodeModel" "outputs" "I", Cond.laysFinal "TracedCodeModel" "TracedCodeModel" "output" "[I", Cond.lays "TracedCodeModel" "TracedCodeModel" "constant" "I"] from by decide +kernel]
  exact List.forall_mem_cons.mpr ⟨wm_689, List.forall_mem_cons.mpr ⟨wm_691, List.forall_mem_cons.mpr ⟨wm_693, List.forall_mem_cons.mpr ⟨wm_695, List.forall_mem_cons.mpr ⟨wm_697, List.forall_mem_cons.mpr ⟨wm_699, List.forall_mem_cons.mpr ⟨wm_701, List.forall_mem_cons.mpr ⟨wm_703, List.forall_mem_cons.mpr ⟨wm_705, List.forall_mem_cons.mpr ⟨wm_707, List.forall_mem_cons.mpr ⟨wm_709, List.forall_mem_cons.mpr ⟨wm_711, List.forall_mem_cons.mpr ⟨wm_713, List.forall_mem_cons.mpr ⟨wm_715, List.forall_mem_cons.mpr ⟨wm_717, List.forall_mem_cons.mpr ⟨wm_719, List.forall_mem_cons.mpr ⟨wm_721, List.forall_mem_cons.mpr ⟨wm_723, List.forall_mem_cons.mpr ⟨wm_725, List.forall_mem_cons.mpr ⟨wm_727, List.forall_mem_cons.mpr ⟨wm_729, List.forall_mem_cons.mpr ⟨wm_731, List.forall_mem_cons.mpr ⟨wm_733, List.forall_mem_cons.mpr ⟨wm_735, List.forall_mem_cons.mpr ⟨wm_737, List.forall_mem_cons.mpr ⟨wm_739, List.forall_mem_cons.mpr ⟨wm_741, fun _ h => absurd h List.not_mem_nil⟩⟩⟩⟩⟩⟩⟩⟩⟩⟩⟩⟩⟩⟩⟩⟩⟩⟩⟩⟩⟩⟩⟩⟩⟩⟩⟩
def tw_cl : List vw_C := [("TracedCode", TT_, 6), ("TracedCode$Code", TC_, 2), ("TracedCode$Copies", TP_, 2), ("TracedCode$Carriers", TK_, 4), ("TracedCode$Machine", TM_, 3), ("TracedCode$Run", TR_, 6), ("TracedCode$Shortener", TS_, 2), ("TracedCodeModel", TD_, 27)]
end
section
/-! The world of one claim: a fixed table of cells at addresses that are variables, its numbers in one function. A walk's judgement tc_V over it. -/
abbrev tc_S : Type := Nat → Nat → Int32
abbrev tc_R : Type := Nat × Nat × List Nat
abbrev tc_X : Type := List tc_R × List vw_C × List (String × String × List Int32) × List (String × Nat × MethodName × String) × List MethodName × List (String × String × String) × List (String × String × Bool)
abbrev tc_G : Type := va_G × (ClassId × ClassId × ClassId × ClassId) × (Nat → Nat)
def tc_ad (G : tc_G) (k : Nat) : Nat := G.2.2 k
/-- a cell: 0 ints, 1 booleans, 2 longs, 3 rows of ints (from a cell on), else an object (its class; its fields: 0 a number, k + 1 the cell k) -/
def tc_e (G : tc_G) (u : tc_S) (k : Nat) (r : tc_R) : va_E := match r.1 with
  | 0 => .inl (G.2.1.1, r.2.1, .inl (u k))
  | 1 => .inl (G.2.1.2.1, r.2.1, .inl (u k))
  | 2 => .inl (G.2.1.2.2.1, r.2.1, .inr (.inl fun j => (u k j).toInt64))
  | 3 => .inl (G.2.1.2.2.2, r.2.1, .inr (.inr (.inr (.inr fun j => some (tc_ad G (r.2.2.headD 0 + j))))))
  | _ => .inr (r.2.1, r.2.2.mapIdx fun j f => if f = 0 then .int (u k j) else .ref (tc_ad G (f - 1)))
def tc_w (X : tc_X) (G : tc_G) (u : tc_S) : va_W := X.1.mapIdx fun k r => (tc_ad G k, tc_e G u k r)
def tc_ty (G : tc_G) : List (ClassId × FieldType) := [(G.2.1.1, .int), (G.2.1.2.1, .boolean), (G.2.1.2.2.1, .long), (G.2.1.2.2.2, .array .int)]
def tc_A (X : tc_X) (G : tc_G) (sz : Nat) : Nat → Prop := fun q => (∃ k, k < X.1.length ∧ q = tc_ad G k) ∨ sz ≤ q
/-- a static of reference type, which nobody writes; nobody asks what it holds -/
def tc_O (C n d : String) (A : Nat → Prop) (U : State) (H : Heap) : Prop := ∃ (c : ClassId) (k : Class) (i : Nat) (f : Field) (a : Nat) (cell : Cell) (v : Value), U.vm.findClass C = some c ∧ U.fieldFound? C n d = some (c, k, i, f) ∧ f.isStatic = true ∧ k.statics = some a ∧ H[a]? = some cell ∧ cell.vm.isStatics = true ∧ cell.cls = c ∧ f.slot < cell.slots.size ∧ k.staticTypes[f.slot]? = some f.type ∧ cell.slots[f.slot]? = some v ∧ (v = .null ∨ ∃ x, v = .ref x) ∧ ¬ A a
theorem tc_O.moved {C n d : String} {A : Nat → Prop} {u U : State} {H : Heap} (hvm : u.vm.Alike U.vm) (h : tc_O C n d A u H) : tc_O C n d A U H := by
  obtain ⟨c, k, i, f, a, cell, v, h0, h1, h2, h3, h4, h5, h6, h7, h8, h9⟩ := h
  obtain ⟨k', hi', he⟩ := State.fieldFound?_setVm hvm h1
  exact ⟨c, k', i, f, a, cell, v, by rw [hvm.findClass]; exact h0, hi', h2, by rw [he]; exact h3, h4, h5, h6, h7, by rw [he]; exact h8, h9⟩
theorem tc_O.kept {C n d : String} {A : Nat → Prop} {U : State} {H H1 : Heap} (h : tc_O C n d A U H) (hq : ∀ a : Nat, a < H.size → ¬ A a → H1[a]? = H[a]?) : tc_O C n d A U H1 := by
  obtain ⟨c, k, i, f, a, cell, v, h0, h1, h2, h3, h4, h5, h6, h7, h8, h9, h10, h11⟩ := h
  exact ⟨c, k, i, f, a, cell, v, h0, h1, h2, h3, by rw [hq a (Array.getElem?_eq_some_iff.mp h4).1 h11]; exact h4, h5, h6, h7, h8, h9, h10, h11⟩
theorem tc_O.narrow {C n d : String} {A B : Nat → Prop} {U : State} {H : Heap} (h : tc_O C n d A U H) (hAB : ∀ q, B q → A q) : tc_O C n d B U H := by
  obtain ⟨c, k, i, f, a, cell, v, h0, h1, h2, h3, h4, h5, h6, h7, h8, h9, h10, h11⟩ := h
  exact ⟨c, k, i, f, a, cell, v, h0, h1, h2, h3, h4, h5, h6, h7, h8, h9, h10, fun z => h11 (hAB a z)⟩
theorem tc_O.lays {C n d : String} {A : Nat → Prop} {U : State} (args : Array Value) (h : tc_O C n d A U U.heap) : (Cond.laysStatic C n d).before args U = true := by
  obtain ⟨c, k, i, f, a, cell, v, hc, hf, hst, hsta, hcell, hiss, hcls, hlt, hty, h9, h10, h11⟩ := h
  simp [Cond.before, Cond.holds, Cond.value, hc, hf, hst, hsta, hcell, hiss, hcls, hlt, hty]
theorem tc_O.isRef {C n d : String} {A : Nat → Prop} {U : State} (args : Array Value) (h : tc_O C n d A U U.heap) : (Cond.isRef (.static C n d)).before args U = true := by
  obtain ⟨c, k, i, f, a, cell, v, hc, hf, hst, hsta, hcell, hiss, hcls, hlt, hty, h9, h10, h11⟩ := h
  have he : (Term.static C n d).eval args U none [] U = some v := by
    simp [Term.eval, State.fieldNamed?, hf, hst, hsta, hcell, hiss, h9]
  simp only [Cond.before, Cond.holds, Cond.value, he]
  rcases h10 with e | ⟨x, e⟩ <;> simp [e]
theorem tc_O.of {C n d : String} {A : Nat → Prop} {s : State} {args : Array Value} (h : (Cond.laysStatic C n d).before args s = true) (h2 : (Cond.isRef (.static C n d)).before args s = true) (hA : ∀ a : Nat, a < s.heap.size → ¬ A a) : tc_O C n d A s s.heap := by
  obtain ⟨c, k, i, f, a, cell, hc, hf, hst, hsta, hcell, hiss, hcls, hlt, hty⟩ := Cond.laysStatic_spec h
  have hv : cell.slots[f.slot]? = some cell.slots[f.slot] := Array.getElem?_eq_getElem hlt
  have he : (Term.static C n d).eval args s none [] s = some cell.slots[f.slot] := by
    simp [Term.eval, State.fieldNamed?, hf, hst, hsta, hcell, hiss]
  refine ⟨c, k, i, f, a, cell, _, hc, hf, hst, hsta, hcell, hiss, hcls, hlt, hty, hv, ?_, hA a (Array.getElem?_eq_some_iff.mp hcell).1⟩
  simp only [Cond.before, Cond.holds, Cond.value, he] at h2
  generalize cell.slots[f.slot] = w at h2
  cases w <;> simp at h2 ⊢
/-- the static tables of ints, which nobody writes -/
def tc_Z (X : tc_X) (A : Nat → Prop) (U : State) (H : Heap) : Prop := (∀ q ∈ X.2.2.1, ∃ t : Nat, va_Z q.1 q.2.1 "[I" (.ref t) A U H ∧ va_T .int t q.2.2.length (fun j => .int (q.2.2.getD j 0)) A U H) ∧ ∀ q ∈ X.2.2.2.2.2.1, tc_O q.1 q.2.1 q.2.2 A U H
/-- which class can be assigned to which -/
def tc_cst (U : State) (q : String × String × Bool) : Prop := ∃ x y : ClassId, U.vm.findClass q.1 = some x ∧ U.vm.findClass q.2.1 = some y ∧ U.vm.assignable x y = q.2.2
theorem tc_cst.moved {u U : State} (hvm : u.vm.Alike U.vm) {q : String × String × Bool} (h : tc_cst u q) : tc_cst U q := by
  obtain ⟨x, y, h1, h2, h3⟩ := h
  exact ⟨x, y, by rw [hvm.findClass]; exact h1, by rw [hvm.findClass]; exact h2, by rw [hvm.assignable]; exact h3⟩
/-- links among nest mates, and abstract methods: words of the tables that are carried apart -/
def tc_N (X : tc_X) (U : State) : Prop := (∀ q ∈ X.2.2.2.1, va_Nw (.methodLinkNest q.1 q.2.1 q.2.2.1 q.2.2.2) U) ∧ (∀ y ∈ X.2.2.2.2.1, va_Nw (.declares y) U) ∧ ∀ q ∈ X.2.2.2.2.2.2, tc_cst U q
theorem tc_N.warm {X : tc_X} {s U : State} (hW : s.WarmedH U.vm) (h : tc_N X s) : tc_N X U := ⟨fun q hq => va_Nw.warmM hW (h.1 q hq), fun y hy => va_Nw.warmD hW (h.2.1 y hy), fun q hq => (h.2.2 q hq).moved hW.alike⟩
theorem tc_N.same {X : tc_X} {u U : State} (e : u.vm = U.vm) (h : tc_N X u) : tc_N X U := ⟨fun q hq => va_Nw.same rfl e (h.1 q hq), fun y hy => va_Nw.same rfl e (h.2.1 y hy), fun q hq => (h.2.2 q hq).moved (e ▸ Vm.Alike.refl _)⟩
def tc_W (X : tc_X) (G : tc_G) (A : Nat → Prop) (s : State) (H : Heap) (locs : List Loc) (u : tc_S) : Prop :=
  va_P G.1 X.2.1 (tc_w X G u) H ∧ va_K G.1 X.2.1 (tc_ty G) s ∧ va_D A (tc_w X G u) ∧ va_S A s.heap H locs ∧ (∀ q, s.heap.size ≤ q → A q) ∧ tc_Z X A s s.heap ∧ tc_N X s
def tc_up (u : tc_S) (k i : Nat) (x : Int32) : tc_S := fun k' => if k' = k then upd (u k) i x else u k'
theorem tc_e_congr {G : tc_G} {u v : tc_S} {k : Nat} (r : tc_R) (h : u k = v k) : tc_e G u k r = tc_e G v k r := by
  unfold tc_e; rw [h]
theorem tc_w_at {X : tc_X} {G : tc_G} {u : tc_S} {k : Nat} {r : tc_R} (h : X.1[k]? = some r) : (tc_w X G u)[k]? = some (tc_ad G k, tc_e G u k r) := by
  unfold tc_w; rw [List.getElem?_mapIdx, h]; rfl
theorem tc_w_set {X : tc_X} {G : tc_G} {u v : tc_S} {k : Nat} {r : tc_R} (h : X.1[k]? = some r) (hv : ∀ j, j ≠ k → v j = u j) : (tc_w X G u).set k (tc_ad G k, tc_e G v k r) = tc_w X G v := by
  apply List.ext_getElem?
  intro i
  rw [List.getElem?_set]
  by_cases hi : k = i
  · subst hi
    rw [if_pos rfl, tc_w_at h]
    have : k < (tc_w X G u).length := by
      unfold tc_w; rw [List.length_mapIdx]; exact (List.getElem?_eq_some_iff.mp h).1
    rw [if_pos this]
  · rw [if_neg hi]
    unfold tc_w
    rw [List.getElem?_mapIdx, List.getElem?_mapIdx]
    cases X.1[i]? with
    | none => rfl
    | some r' =>
      simp only [Option.map_some]
      rw [tc_e_congr r' (hv i (fun e => hi e.symm))]
theorem tc_up_ne {u : tc_S} {k i j : Nat} {x : Int32} (h : j ≠ k) : tc_up u k i x j = u j := by unfold tc_up; rw [if_neg h]
theorem tc_up_eq {u : tc_S} {k i : Nat} {x : Int32} : tc_up u k i x k = upd (u k) i x := by unfold tc_up; rw [if_pos rfl]
theorem tc_up_self {u : tc_S} {k i : Nat} {x : Int32} : tc_up u k i x k i = x := by rw [tc_up_eq]; exact pk_us
theorem tc_up_at {u : tc_S} {k i j : Nat} {x : Int32} (h : j ≠ i) : tc_up u k i x k j = u k j := by rw [tc_up_eq]; exact pk_un h
theorem tc_D_of {X : tc_X} {G : tc_G} {u v : tc_S} {A B : Nat → Prop} (h : va_D A (tc_w X G u)) (hB : ∀ k, k < X.1.length → B (tc_ad G k)) : va_D B (tc_w X G v) := by
  have key : ∀ (w : tc_S) (i : Nat) (q : Nat × va_E), (tc_w X G w)[i]? = some q → ∃ r, X.1[i]? = some r ∧ q.1 = tc_ad G i := by
    intro w i q hq
    unfold tc_w at hq
    rw [List.getElem?_mapIdx] at hq
    cases hr : X.1[i]? with
    | none => rw [hr] at hq; cases hq
    | some r => rw [hr] at hq; cases hq; exact ⟨r, rfl, rfl⟩
  refine ⟨fun i j p q hi hj e => ?_, fun k q hk => ?_⟩
  · obtain ⟨r1, h1, e1⟩ := key v i p hi
    obtain ⟨r2, h2, e2⟩ := key v j q hj
    exact h.1 i j _ _ (tc_w_at (u := u) h1) (tc_w_at (u := u) h2) (by rw [← e1, ← e2]; exact e)
  · obtain ⟨r1, h1, e1⟩ := key v k q hk
    rw [e1]
    exact hB k (List.getElem?_eq_some_iff.mp h1).1
theorem tc_Z.moved {X : tc_X} {A : Nat → Prop} {u U : State} {H : Heap} (hvm : u.vm.Alike U.vm) (h : tc_Z X A u H) : tc_Z X A U H := ⟨fun q hq => by
  obtain ⟨t, h1, h2⟩ := h.1 q hq
  exact ⟨t, h1.moved hvm, h2.moved hvm⟩, fun q hq => (h.2 q hq).moved hvm⟩
theorem tc_Z.kept {X : tc_X} {A : Nat → Prop} {U : State} {H H1 : Heap} (h : tc_Z X A U H) (hq : ∀ a : Nat, a < H.size → ¬ A a → H1[a]? = H[a]?) : tc_Z X A U H1 := ⟨fun q h0 => by
  obtain ⟨t, h1, h2⟩ := h.1 q h0
  exact ⟨t, h1.kept hq, h2.kept hq⟩, fun q h0 => (h.2 q h0).kept hq⟩
theorem tc_Z.narrow {X : tc_X} {A B : Nat → Prop} {U : State} {H : Heap} (h : tc_Z X A U H) (hAB : ∀ q, B q → A q) : tc_Z X B U H := ⟨fun q h0 => by
  obtain ⟨t, h1, h2⟩ := h.1 q h0
  exact ⟨t, h1.narrow hAB, h2.narrow hAB⟩, fun q h0 => (h.2 q h0).narrow hAB⟩
/-- the locals by their places -/
def tc_as : Nat → List (Option Value) → List (Nat × Value)
  | _, [] => []
  | i, none :: t => tc_as (i + 1) t
  | i, some v :: t => if v.category = 1 then (i, v) :: tc_as (i + 1) t else tc_as (i + 1) t
theorem tc_as_mem : ∀ (lv : List (Option Value)) (k i : Nat) (v : Value), (i, v) ∈ tc_as k lv ↔ (k ≤ i ∧ lv[i - k]? = some (some v) ∧ v.category = 1) := by
  intro lv
  induction lv with
  | nil => intro k i v; simp [tc_as]
  | cons a t ih =>
    intro k i v
    have step : (i, v) ∈ tc_as (k + 1) t ↔ (k < i ∧ (a :: t)[i - k]? = some (some v) ∧ v.category = 1) := by
      rw [ih]
      constructor
      · rintro ⟨h1, h2, h3⟩
        refine ⟨h1, ?_, h3⟩
        rw [show i - k = (i - (k + 1)) + 1 by omega]
        exact h2
      · rintro ⟨h1, h2, h3⟩
        refine ⟨h1, ?_, h3⟩
        rw [show i - k = (i - (k + 1)) + 1 by omega] at h2
        exact h2
    have zero : ∀ x : Option Value, (x :: t)[k - k]? = some x := fun x => by rw [Nat.sub_self]; rfl
    cases a with
    | none =>
      show (i, v) ∈ tc_as (k + 1) t ↔ _
      rw [step]
      constructor
      · rintro ⟨h1, h2⟩; exact ⟨Nat.le_of_lt h1, h2⟩
      · rintro ⟨h1, h2, h3⟩
        rcases Nat.lt_or_eq_of_le h1 with h | h
        · exact ⟨h, h2, h3⟩
        · subst h; rw [zero] at h2; cases h2
    | some w =>
      show (i, v) ∈ (if w.category = 1 then (k, w) :: tc_as (k + 1) t else tc_as (k + 1) t) ↔ _
      by_cases hw : w.category = 1
      · rw [if_pos hw, List.mem_cons, step]
        constructor
        · rintro (h | ⟨h1, h2⟩)
          · cases h; exact ⟨Nat.le_refl _, zero _, hw⟩
          · exact ⟨Nat.le_of_lt h1, h2⟩
        · rintro ⟨h1, h2, h3⟩
          rcases Nat.lt_or_eq_of_le h1 with h | h
          · exact Or.inr ⟨h, h2, h3⟩
          · subst h; rw [zero] at h2; cases h2; exact Or.inl rfl
      · rw [if_neg hw, step]
        constructor
        · rintro ⟨h1, h2⟩; exact ⟨Nat.le_of_lt h1, h2⟩
        · rintro ⟨h1, h2, h3⟩
          rcases Nat.lt_or_eq_of_le h1 with h | h
          · exact ⟨h, h2, h3⟩
          · subst h; rw [zero] at h2; cases h2; exact absurd h3 hw
theorem tc_ld {ls : Array Slot} {nL : Nat} {lv : List (Option Value)} (h : lv_has ls nL (tc_as 0 lv)) {i : Nat} {v : Value} (hi : lv[i]? = some (some v)) (hc : v.category = 1) : ls[i]? = some (.val v) :=
  h.2.2 (i, v) ((tc_as_mem lv 0 i v).mpr ⟨Nat.zero_le _, hi, hc⟩)
theorem tc_st {ls : Array Slot} {nL : Nat} {lv : List (Option Value)} {i : Nat} {v : Value} (hi : i < lv.length)
    (h : lv_has ls nL ((i, v) :: (tc_as 0 lv).filter (fun q => !(q.1 == i) && !(q.1 + 1 == i && q.2.category == 2)))) : lv_has ls nL (tc_as 0 (lv.set i (some v))) := by
  refine ⟨h.1, h.2.1, fun q hq => h.2.2 q ?_⟩
  obtain ⟨j, w⟩ := q
  obtain ⟨-, h1, h2⟩ := (tc_as_mem _ 0 j w).mp hq
  rw [Nat.sub_zero, List.getElem?_set] at h1
  by_cases hj : i = j
  · rw [if_pos hj, if_pos (by omega)] at h1
    cases h1
    rw [hj]
    exact List.mem_cons_self
  · rw [if_neg hj] at h1
    refine List.mem_cons_of_mem _ (List.mem_filter.mpr ⟨(tc_as_mem lv 0 j w).mpr ⟨Nat.zero_le _, h1, h2⟩, ?_⟩)
    have e1 : (j == i) = false := by simp; exact fun e => hj e.symm
    have e2 : (w.category == 2) = false := by rw [h2]; rfl
    simp [e1, e2]
/-- an index into n places -/
def tc_ix (i : Int32) (n j : Nat) : Prop := ¬ i < 0 ∧ i.toNatClampNeg = j ∧ j < n
theorem tc_ix.in {i : Int32} {n j : Nat} (h : tc_ix i n j) : vp_in i n := by
  rintro (q | q)
  · exact h.1 q
  · have := h.2.2; rw [h.2.1] at q; omega
theorem tc_ixN {n j : Nat} (h : j < n) (hn : n < 2 ^ 31) : tc_ix (nI j) n j := ⟨nI_pos (by omega), nI_clamp (by omega), h⟩
/-- a contract's start and end -/
def tc_Pc (X : tc_X) (G : tc_G) (av : List Value) (u : tc_S) (sz : Nat) : Array Value → State → Prop :=
  va_Pc av (fun U => U.heap.size = sz ∧ va_P G.1 X.2.1 (tc_w X G u) U.heap ∧ va_K G.1 X.2.1 (tc_ty G) U ∧ va_D (fun _ => True) (tc_w X G u) ∧ tc_Z X (tc_A X G sz) U U.heap ∧ tc_N X U)
def tc_Qc (X : tc_X) (G : tc_G) (K : Outcome → tc_S → Prop) (sz : Nat) : Array Value → State → Outcome → State → Prop :=
  fun _ st oc t => (∃ u : tc_S, K oc u ∧ va_P G.1 X.2.1 (tc_w X G u) t.heap ∧ va_K G.1 X.2.1 (tc_ty G) t) ∧ va_F (tc_A X G sz) st t
def tc_C (X : tc_X) (G : tc_G) (l : Launch) (y : MethodName) (ws : List Cond) (rm : Room) (mc ms : Nat) (av : List Value) (u : tc_S) (K : Outcome → tc_S → Prop) : Prop :=
  ∀ sz : Nat, Met l y ws rm (tc_Pc X G av u sz) (tc_Qc X G K sz) mc ms (tc_A X G sz)
def tc_Ki (r : Int32) (u : tc_S) : Outcome → tc_S → Prop := fun o v => o = .returned (some (.int r)) ∧ v = u
def tc_Kv (u : tc_S) : Outcome → tc_S → Prop := fun o v => o = .returned none ∧ v = u
def tc_Kr (a : Nat) (u : tc_S) : Outcome → tc_S → Prop := fun o v => o = .returned (some (.ref a)) ∧ v = u
theorem tc_blind {X : tc_X} {G : tc_G} {av : List Value} {u : tc_S} {sz : Nat} : FrameBlind (tc_Pc X G av u sz) := by
  intro a U g mk q
  obtain ⟨q0, q1, qP, qK, qD, qZ, qN⟩ := q
  exact ⟨q0, q1, qP, va_K.moved (u := U) (U := U.calling g mk a) (Vm.Alike.refl U.vm) qK, qD, tc_Z.moved (u := U) (U := U.calling g mk a) (Vm.Alike.refl U.vm) qZ, tc_N.same (u := U) (U := U.calling g mk a) rfl qN⟩
def tc_V (X : tc_X) (G : tc_G) (p : Program) (l : Launch) (e : Env) (R : Room) (s : State) (m : MethodId) (args : Array Value) (below : List Frame) (meth : Method) (c : Code)
    (cc : ByteArray) (nL : Nat) (Ts : List Cond) (own : String) (ret : Option FieldType) (hh : List (Nat × Nat × Nat × Nat)) (Q : State → Prop) (cells slots : Nat) (u : tc_S) (pc : Nat) (lv : List (Option Value)) (st : List Value) : Prop :=
  p.tables.exec = Jvm.exec → c.code = cc → c.maxLocals = nL → s.vm.findClass own = some m.cls → (∀ w ∈ Ts, w.before args s = true) → meth.sig.returnType = ret → meth.locks = false → c.exceptionTable.toList.map (fun h => (h.startPc, h.endPc, h.handlerPc, h.catchType)) = hh →
  ∀ (ls : Array Slot) (H : Heap) (locs : List Loc), lv_has ls nL (tc_as 0 lv) → tc_W X G (tc_A X G s.heap.size) s H locs u → W p l e R s m args below meth c H locs cells slots Q (F0 m pc ls st)

section TV
variable {X : tc_X} {G : tc_G} {p : Program} {l : Launch} {e : Env} {R : Room} {s : State} {m : MethodId} {args : Array Value} {below : List Frame} {meth : Method} {c : Code}
variable {cc : ByteArray} {nL : Nat} {Ts : List Cond} {own : String} {ret : Option FieldType} {hh : List (Nat × Nat × Nat × Nat)} {Q : State → Prop} {cells slots : Nat} {u : tc_S} {pc : Nat} {lv : List (Option Value)} {rest : List Value}
theorem tv_iconst {n : Int} {v : Int32} (d : decode cc pc = .ok (.iconst n, 1)) (hv : Int32.ofInt n = v) (k : tc_V X G p l e R s m args below meth c cc nL Ts own ret hh Q cells slots u (pc + 1) lv (.int v :: rest)) : tc_V X G p l e R s m args below meth c cc nL Ts own ret hh Q cells slots u pc lv (rest) :=
  fun hx hb hm ho ht hr hk hq0 ls H locs hl hw => lv_iconst hx hb d hv (k hx hb hm ho ht hr hk hq0 ls H locs hl hw)
theorem tv_bipush {n : Int} {v : Int32} (d : decode cc pc = .ok (.bipush n, 2)) (hv : (Int8.ofInt n).toInt32 = v) (k : tc_V X G p l e R s m args below meth c cc nL Ts own ret hh Q cells slots u (pc + 2) lv (.int v :: rest)) : tc_V X G p l e R s m args below meth c cc nL Ts own ret hh Q cells slots u pc lv (rest) :=
  fun hx hb hm ho ht hr hk hq0 ls H locs hl hw => lv_bipush hx hb d hv (k hx hb hm ho ht hr hk hq0 ls H locs hl hw)
theorem tv_sipush {n : Int} {v : Int32} (d : decode cc pc = .ok (.sipush n, 3)) (hv : (Int16.ofInt n).toInt32 = v) (k : tc_V X G p l e R s m args below meth c cc nL Ts own ret hh Q cells slots u (pc + 3) lv (.int v :: rest)) : tc_V X G p l e R s m args below meth c cc nL Ts own ret hh Q cells slots u pc lv (rest) :=
  fun hx hb hm ho ht hr hk hq0 ls H locs hl hw => lv_sipush hx hb d hv (k hx hb hm ho ht hr hk hq0 ls H locs hl hw)
theorem tv_iadd {x y : Int32} (d : decode cc pc = .ok (.iadd, 1)) (k : tc_V X G p l e R s m args below meth c cc nL Ts own ret hh Q cells slots u (pc + 1) lv (.int (x + y) :: rest)) : tc_V X G p l e R s m args below meth c cc nL Ts own ret hh Q cells slots u pc lv (.int y :: .int x :: rest) :=
  fun hx hb hm ho ht hr hk hq0 ls H locs hl hw => lv_iadd hx hb d (k hx hb hm ho ht hr hk hq0 ls H locs hl hw)
theorem tv_isub {x y : Int32} (d : decode cc pc = .ok (.isub, 1)) (k : tc_V X G p l e R s m args below meth c cc nL Ts own ret hh Q cells slots u (pc + 1) lv (.int (x - y) :: rest)) : tc_V X G p l e R s m args below meth c cc nL Ts own ret hh Q cells slots u pc lv (.int y :: .int x :: rest) :=
  fun hx hb hm ho ht hr hk hq0 ls H locs hl hw => lv_isub hx hb d (k hx hb hm ho ht hr hk hq0 ls H locs hl hw)
theorem tv_imul {x y : Int32} (d : decode cc pc = .ok (.imul, 1)) (k : tc_V X G p l e R s m args below meth c cc nL Ts own ret hh Q cells slots u (pc + 1) lv (.int (x * y) :: rest)) : tc_V X G p l e R s m args below meth c cc nL Ts own ret hh Q cells slots u pc lv (.int y :: .int x :: rest) :=
  fun hx hb hm ho ht hr hk hq0 ls H locs hl hw => lv_imul hx hb d (k hx hb hm ho ht hr hk hq0 ls H locs hl hw)
theorem tv_iand {x y : Int32} (d : decode cc pc = .ok (.iand, 1)) (k : tc_V X G p l e R s m args below meth c cc nL Ts own ret hh Q cells slots u (pc + 1) lv (.int (x &&& y) :: rest)) : tc_V X G p l e R s m args below meth c cc nL Ts own ret hh Q cells slots u pc lv (.int y :: .int x :: rest) :=
  fun hx hb hm ho ht hr hk hq0 ls H locs hl hw => lv_iand hx hb d (k hx hb hm ho ht hr hk hq0 ls H locs hl hw)
theorem tv_ior {x y : Int32} (d : decode cc pc = .ok (.ior, 1)) (k : tc_V X G p l e R s m args below meth c cc nL Ts own ret hh Q cells slots u (pc + 1) lv (.int (x ||| y) :: rest)) : tc_V X G p l e R s m args below meth c cc nL Ts own ret hh Q cells slots u pc lv (.int y :: .int x :: rest) :=
  fun hx hb hm ho ht hr hk hq0 ls H locs hl hw => lv_ior hx hb d (k hx hb hm ho ht hr hk hq0 ls H locs hl hw)
theorem tv_ixor {x y : Int32} (d : decode cc pc = .ok (.ixor, 1)) (k : tc_V X G p l e R s m args below meth c cc nL Ts own ret hh Q cells slots u (pc + 1) lv (.int (x ^^^ y) :: rest)) : tc_V X G p l e R s m args below meth c cc nL Ts own ret hh Q cells slots u pc lv (.int y :: .int x :: rest) :=
  fun hx hb hm ho ht hr hk hq0 ls H locs hl hw => lv_ixor hx hb d (k hx hb hm ho ht hr hk hq0 ls H locs hl hw)
theorem tv_ishl {x y : Int32} (d : decode cc pc = .ok (.ishl, 1)) (k : tc_V X G p l e R s m args below meth c cc nL Ts own ret hh Q cells slots u (pc + 1) lv (.int (x <<< (y &&& 31)) :: rest)) : tc_V X G p l e R s m args below meth c cc nL Ts own ret hh Q cells slots u pc lv (.int y :: .int x :: rest) :=
  fun hx hb hm ho ht hr hk hq0 ls H locs hl hw => lv_ishl hx hb d (k hx hb hm ho ht hr hk hq0 ls H locs hl hw)
theorem tv_ishr {x y : Int32} (d : decode cc pc = .ok (.ishr, 1)) (k : tc_V X G p l e R s m args below meth c cc nL Ts own ret hh Q cells slots u (pc + 1) lv (.int (x >>> (y &&& 31)) :: rest)) : tc_V X G p l e R s m args below meth c cc nL Ts own ret hh Q cells slots u pc lv (.int y :: .int x :: rest) :=
  fun hx hb hm ho ht hr hk hq0 ls H locs hl hw => lv_ishr hx hb d (k hx hb hm ho ht hr hk hq0 ls H locs hl hw)
theorem tv_ineg {x : Int32} (d : decode cc pc = .ok (.ineg, 1)) (k : tc_V X G p l e R s m args below meth c cc nL Ts own ret hh Q cells slots u (pc + 1) lv (.int (-x) :: rest)) : tc_V X G p l e R s m args below meth c cc nL Ts own ret hh Q cells slots u pc lv (.int x :: rest) :=
  fun hx hb hm ho ht hr hk hq0 ls H locs hl hw => lv_ineg hx hb d (k hx hb hm ho ht hr hk hq0 ls H locs hl hw)
theorem tv_i2l {x : Int32} (d : decode cc pc = .ok (.i2l, 1)) (k : tc_V X G p l e R s m args below meth c cc nL Ts own ret hh Q cells slots u (pc + 1) lv (.long x.toInt64 :: rest)) : tc_V X G p l e R s m args below meth c cc nL Ts own ret hh Q cells slots u pc lv (.int x :: rest) :=
  fun hx hb hm ho ht hr hk hq0 ls H locs hl hw => lv_i2l hx hb d rfl (k hx hb hm ho ht hr hk hq0 ls H locs hl hw)
theorem tv_dup {va : Value} (d : decode cc pc = .ok (.dup, 1)) (hva : va.category = 1) (k : tc_V X G p l e R s m args below meth c cc nL Ts own ret hh Q cells slots u (pc + 1) lv (va :: va :: rest)) : tc_V X G p l e R s m args below meth c cc nL Ts own ret hh Q cells slots u pc lv (va :: rest) :=
  fun hx hb hm ho ht hr hk hq0 ls H locs hl hw => lv_dup hx hb d hva (k hx hb hm ho ht hr hk hq0 ls H locs hl hw)
theorem tv_pop {va : Value} (d : decode cc pc = .ok (.pop, 1)) (hva : va.category = 1) (k : tc_V X G p l e R s m args below meth c cc nL Ts own ret hh Q cells slots u (pc + 1) lv (rest)) : tc_V X G p l e R s m args below meth c cc nL Ts own ret hh Q cells slots u pc lv (va :: rest) :=
  fun hx hb hm ho ht hr hk hq0 ls H locs hl hw => lv_pop hx hb d hva (k hx hb hm ho ht hr hk hq0 ls H locs hl hw)
theorem tv_dup_x1 {va vb : Value} (d : decode cc pc = .ok (.dup_x1, 1)) (hva : va.category = 1) (hvb : vb.category = 1) (k : tc_V X G p l e R s m args below meth c cc nL Ts own ret hh Q cells slots u (pc + 1) lv (va :: vb :: va :: rest)) : tc_V X G p l e R s m args below meth c cc nL Ts own ret hh Q cells slots u pc lv (va :: vb :: rest) :=
  fun hx hb hm ho ht hr hk hq0 ls H locs hl hw => lv_dup_x1 hx hb d hva hvb (k hx hb hm ho ht hr hk hq0 ls H locs hl hw)
theorem tv_dup_x2 {va vb vd : Value} (d : decode cc pc = .ok (.dup_x2, 1)) (hva : va.category = 1) (hvb : vb.category = 1) (hvd : vd.category = 1) (k : tc_V X G p l e R s m args below meth c cc nL Ts own ret hh Q cells slots u (pc + 1) lv (va :: vb :: vd :: va :: rest)) : tc_V X G p l e R s m args below meth c cc nL Ts own ret hh Q cells slots u pc lv (va :: vb :: vd :: rest) :=
  fun hx hb hm ho ht hr hk hq0 ls H locs hl hw => lv_dup_x2 hx hb d hva hvb hvd (k hx hb hm ho ht hr hk hq0 ls H locs hl hw)
theorem tv_dup2 {va vb : Value} (d : decode cc pc = .ok (.dup2, 1)) (hva : va.category = 1) (hvb : vb.category = 1) (k : tc_V X G p l e R s m args below meth c cc nL Ts own ret hh Q cells slots u (pc + 1) lv (va :: vb :: va :: vb :: rest)) : tc_V X G p l e R s m args below meth c cc nL Ts own ret hh Q cells slots u pc lv (va :: vb :: rest) :=
  fun hx hb hm ho ht hr hk hq0 ls H locs hl hw => lv_dup2_11 hx hb d hva hvb (k hx hb hm ho ht hr hk hq0 ls H locs hl hw)
theorem tv_lcmp {x y : Int64} (d : decode cc pc = .ok (.lcmp, 1)) (k : tc_V X G p l e R s m args below meth c cc nL Ts own ret hh Q cells slots u (pc + 1) lv (.int (lg_cmp x y) :: rest)) : tc_V X G p l e R s m args below meth c cc nL Ts own ret hh Q cells slots u pc lv (.long y :: .long x :: rest) :=
  fun hx hb hm ho ht hr hk hq0 ls H locs hl hw => W.lcmp hx hb d (k hx hb hm ho ht hr hk hq0 ls H locs hl hw)
theorem tv_iload_n {k : Fin 4} {x : Int32} (d : decode cc pc = .ok (.iload_n k, 1)) (hi : lv[(k : Nat)]? = some (some (.int x))) (kk : tc_V X G p l e R s m args below meth c cc nL Ts own ret hh Q cells slots u (pc + 1) lv (.int x :: rest)) : tc_V X G p l e R s m args below meth c cc nL Ts own ret hh Q cells slots u pc lv rest :=
  fun hx hb hm ho ht hr hk hq0 ls H locs hl hw => lv_iload_n hx hb d rfl (tc_ld hl hi rfl) (kk hx hb hm ho ht hr hk hq0 ls H locs hl hw)
theorem tv_iload {i : Nat} {x : Int32} (d : decode cc pc = .ok (.iload i, 2)) (hi : lv[i]? = some (some (.int x))) (kk : tc_V X G p l e R s m args below meth c cc nL Ts own ret hh Q cells slots u (pc + 2) lv (.int x :: rest)) : tc_V X G p l e R s m args below meth c cc nL Ts own ret hh Q cells slots u pc lv rest :=
  fun hx hb hm ho ht hr hk hq0 ls H locs hl hw => lv_iload hx hb d (tc_ld hl hi rfl) (kk hx hb hm ho ht hr hk hq0 ls H locs hl hw)
theorem tv_aload_n {k : Fin 4} {x : Nat} (d : decode cc pc = .ok (.aload_n k, 1)) (hi : lv[(k : Nat)]? = some (some (.ref x))) (kk : tc_V X G p l e R s m args below meth c cc nL Ts own ret hh Q cells slots u (pc + 1) lv (.ref x :: rest)) : tc_V X G p l e R s m args below meth c cc nL Ts own ret hh Q cells slots u pc lv rest :=
  fun hx hb hm ho ht hr hk hq0 ls H locs hl hw => lv_aload_n hx hb d rfl (tc_ld hl hi rfl) (kk hx hb hm ho ht hr hk hq0 ls H locs hl hw)
theorem tv_aload {i : Nat} {x : Nat} (d : decode cc pc = .ok (.aload i, 2)) (hi : lv[i]? = some (some (.ref x))) (kk : tc_V X G p l e R s m args below meth c cc nL Ts own ret hh Q cells slots u (pc + 2) lv (.ref x :: rest)) : tc_V X G p l e R s m args below meth c cc nL Ts own ret hh Q cells slots u pc lv rest :=
  fun hx hb hm ho ht hr hk hq0 ls H locs hl hw => lv_aload hx hb d (tc_ld hl hi rfl) (kk hx hb hm ho ht hr hk hq0 ls H locs hl hw)
theorem tv_istore_g {k : Fin 4} {x : Int32} (d : decode cc pc = .ok (.istore_n k, 1)) (hn : (k : Nat) < lv.length) (hL : lv.length = nL) (kk : tc_V X G p l e R s m args below meth c cc nL Ts own ret hh Q cells slots u (pc + 1) (lv.set (k : Nat) (some (.int x))) rest) : tc_V X G p l e R s m args below meth c cc nL Ts own ret hh Q cells slots u pc lv (.int x :: rest) :=
  fun hx hb hm ho ht hr hk hq0 ls H locs hl hw => lv_istore_n hx hb d rfl hl (by omega) rfl (fun ls' hl' => kk hx hb hm ho ht hr hk hq0 ls' H locs (tc_st hn hl') hw)
theorem tv_istore_h {i : Nat} {x : Int32} (d : decode cc pc = .ok (.istore i, 2)) (hn : i < lv.length) (hL : lv.length = nL) (kk : tc_V X G p l e R s m args below meth c cc nL Ts own ret hh Q cells slots u (pc + 2) (lv.set i (some (.int x))) rest) : tc_V X G p l e R s m args below meth c cc nL Ts own ret hh Q cells slots u pc lv (.int x :: rest) :=
  fun hx hb hm ho ht hr hk hq0 ls H locs hl hw => lv_istore hx hb d hl (by omega) rfl (fun ls' hl' => kk hx hb hm ho ht hr hk hq0 ls' H locs (tc_st hn hl') hw)
theorem tv_istore0 {x : Int32} {a0 : Option Value} {tl : List (Option Value)} (d : decode cc pc = .ok (.istore_n 0, 1)) (hL : (a0 :: tl).length = nL) (kk : tc_V X G p l e R s m args below meth c cc nL Ts own ret hh Q cells slots u (pc + 1) (some (.int x) :: tl) rest) : tc_V X G p l e R s m args below meth c cc nL Ts own ret hh Q cells slots u pc (a0 :: tl) (.int x :: rest) :=
  tv_istore_g d (by simp only [List.length_cons]; show 0 < _; omega) hL kk
theorem tv_istore1 {x : Int32} {a0 a1 : Option Value} {tl : List (Option Value)} (d : decode cc pc = .ok (.istore_n 1, 1)) (hL : (a0 :: a1 :: tl).length = nL) (kk : tc_V X G p l e R s m args below meth c cc nL Ts own ret hh Q cells slots u (pc + 1) (a0 :: some (.int x) :: tl) rest) : tc_V X G p l e R s m args below meth c cc nL Ts own ret hh Q cells slots u pc (a0 :: a1 :: tl) (.int x :: rest) :=
  tv_istore_g d (by simp only [List.length_cons]; show 1 < _; omega) hL kk
theorem tv_istore2 {x : Int32} {a0 a1 a2 : Option Value} {tl : List (Option Value)} (d : decode cc pc = .ok (.istore_n 2, 1)) (hL : (a0 :: a1 :: a2 :: tl).length = nL) (kk : tc_V X G p l e R s m args below meth c cc nL Ts own ret hh Q cells slots u (pc + 1) (a0 :: a1 :: some (.int x) :: tl) rest) : tc_V X G p l e R s m args below meth c cc nL Ts own ret hh Q cells slots u pc (a0 :: a1 :: a2 :: tl) (.int x :: rest) :=
  tv_istore_g d (by simp only [List.length_cons]; show 2 < _; omega) hL kk
theorem tv_istore3 {x : Int32} {a0 a1 a2 a3 : Option Value} {tl : List (Option Value)} (d : decode cc pc = .ok (.istore_n 3, 1)) (hL : (a0 :: a1 :: a2 :: a3 :: tl).length = nL) (kk : tc_V X G p l e R s m args below meth c cc nL Ts own ret hh Q cells slots u (pc + 1) (a0 :: a1 :: a2 :: some (.int x) :: tl) rest) : tc_V X G p l e R s m args below meth c cc nL Ts own ret hh Q cells slots u pc (a0 :: a1 :: a2 :: a3 :: tl) (.int x :: rest) :=
  tv_istore_g d (by simp only [List.length_cons]; show 3 < _; omega) hL kk
theorem tv_istore4 {x : Int32} {a0 a1 a2 a3 a4 : Option Value} {tl : List (Option Value)} (d : decode cc pc = .ok (.istore 4, 2)) (hL : (a0 :: a1 :: a2 :: a3 :: a4 :: tl).length = nL) (kk : tc_V X G p l e R s m args below meth c cc nL Ts own ret hh Q cells slots u (pc + 2) (a0 :: a1 :: a2 :: a3 :: some (.int x) :: tl) rest) : tc_V X G p l e R s m args below meth c cc nL Ts own ret hh Q cells slots u pc (a0 :: a1 :: a2 :: a3 :: a4 :: tl) (.int x :: rest) :=
  tv_istore_h d (by simp only [List.length_cons]; show 4 < _; omega) hL kk
theorem tv_istore5 {x : Int32} {a0 a1 a2 a3 a4 a5 : Option Value} {tl : List (Option Value)} (d : decode cc pc = .ok (.istore 5, 2)) (hL : (a0 :: a1 :: a2 :: a3 :: a4 :: a5 :: tl).length = nL) (kk : tc_V X G p l e R s m args below meth c cc nL Ts own ret hh Q cells slots u (pc + 2) (a0 :: a1 :: a2 :: a3 :: a4 :: some (.int x) :: tl) rest) : tc_V X G p l e R s m args below meth c cc nL Ts own ret hh Q cells slots u pc (a0 :: a1 :: a2 :: a3 :: a4 :: a5 :: tl) (.int x :: rest) :=
  tv_istore_h d (by simp only [List.length_cons]; show 5 < _; omega) hL kk
theorem tv_istore6 {x : Int32} {a0 a1 a2 a3 a4 a5 a6 : Option Value} {tl : List (Option Value)} (d : decode cc pc = .ok (.istore 6, 2)) (hL : (a0 :: a1 :: a2 :: a3 :: a4 :: a5 :: a6 :: tl).length = nL) (kk : tc_V X G p l e R s m args below meth c cc nL Ts own ret hh Q cells slots u (pc + 2) (a0 :: a1 :: a2 :: a3 :: a4 :: a5 :: some (.int x) :: tl) rest) : tc_V X G p l e R s m args below meth c cc nL Ts own ret hh Q cells slots u pc (a0 :: a1 :: a2 :: a3 :: a4 :: a5 :: a6 :: tl) (.int x :: rest) :=
  tv_istore_h d (by simp only [List.length_cons]; show 6 < _; omega) hL kk
theorem tv_istore7 {x : Int32} {a0 a1 a2 a3 a4 a5 a6 a7 : Option Value} {tl : List (Option Value)} (d : decode cc pc = .ok (.istore 7, 2)) (hL : (a0 :: a1 :: a2 :: a3 :: a4 :: a5 :: a6 :: a7 :: tl).length = nL) (kk : tc_V X G p l e R s m args below meth c cc nL Ts own ret hh Q cells slots u (pc + 2) (a0 :: a1 :: a2 :: a3 :: a4 :: a5 :: a6 :: some (.int x) :: tl) rest) : tc_V X G p l e R s m args below meth c cc nL Ts own ret hh Q cells slots u pc (a0 :: a1 :: a2 :: a3 :: a4 :: a5 :: a6 :: a7 :: tl) (.int x :: rest) :=
  tv_istore_h d (by simp only [List.length_cons]; show 7 < _; omega) hL kk
theorem tv_istore8 {x : Int32} {a0 a1 a2 a3 a4 a5 a6 a7 a8 : Option Value} {tl : List (Option Value)} (d : decode cc pc = .ok (.istore 8, 2)) (hL : (a0 :: a1 :: a2 :: a3 :: a4 :: a5 :: a6 :: a7 :: a8 :: tl).length = nL) (kk : tc_V X G p l e R s m args below meth c cc nL Ts own ret hh Q cells slots u (pc + 2) (a0 :: a1 :: a2 :: a3 :: a4 :: a5 :: a6 :: a7 :: some (.int x) :: tl) rest) : tc_V X G p l e R s m args below meth c cc nL Ts own ret hh Q cells slots u pc (a0 :: a1 :: a2 :: a3 :: a4 :: a5 :: a6 :: a7 :: a8 :: tl) (.int x :: rest) :=
  tv_istore_h d (by simp only [List.length_cons]; show 8 < _; omega) hL kk
theorem tv_istore9 {x : Int32} {a0 a1 a2 a3 a4 a5 a6 a7 a8 a9 : Option Value} {tl : List (Option Value)} (d : decode cc pc = .ok (.istore 9, 2)) (hL : (a0 :: a1 :: a2 :: a3 :: a4 :: a5 :: a6 :: a7 :: a8 :: a9 :: tl).length = nL) (kk : tc_V X G p l e R s m args below meth c cc nL Ts own ret hh Q cells slots u (pc + 2) (a0 :: a1 :: a2 :: a3 :: a4 :: a5 :: a6 :: a7 :: a8 :: some (.int x) :: tl) rest) : tc_V X G p l e R s m args below meth c cc nL Ts own ret hh Q cells slots u pc (a0 :: a1 :: a2 :: a3 :: a4 :: a5 :: a6 :: a7 :: a8 :: a9 :: tl) (.int x :: rest) :=
  tv_istore_h d (by simp only [List.length_cons]; show 9 < _; omega) hL kk
theorem tv_istore10 {x : Int32} {a0 a1 a2 a3 a4 a5 a6 a7 a8 a9 a10 : Option Value} {tl : List (Option Value)} (d : decode cc pc = .ok (.istore 10, 2)) (hL : (a0 :: a1 :: a2 :: a3 :: a4 :: a5 :: a6 :: a7 :: a8 :: a9 :: a10 :: tl).length = nL) (kk : tc_V X G p l e R s m args below meth c cc nL Ts own ret hh Q cells slots u (pc + 2) (a0 :: a1 :: a2 :: a3 :: a4 :: a5 :: a6 :: a7 :: a8 :: a9 :: some (.int x) :: tl) rest) : tc_V X G p l e R s m args below meth c cc nL Ts own ret hh Q cells slots u pc (a0 :: a1 :: a2 :: a3 :: a4 :: a5 :: a6 :: a7 :: a8 :: a9 :: a10 :: tl) (.int x :: rest) :=
  tv_istore_h d (by simp only [List.length_cons]; show 10 < _; omega) hL kk
theorem tv_istore11 {x : Int32} {a0 a1 a2 a3 a4 a5 a6 a7 a8 a9 a10 a11 : Option Value} {tl : List (Option Value)} (d : decode cc pc = .ok (.istore 11, 2)) (hL : (a0 :: a1 :: a2 :: a3 :: a4 :: a5 :: a6 :: a7 :: a8 :: a9 :: a10 :: a11 :: tl).length = nL) (kk : tc_V X G p l e R s m args below meth c cc nL Ts own ret hh Q cells slots u (pc + 2) (a0 :: a1 :: a2 :: a3 :: a4 :: a5 :: a6 :: a7 :: a8 :: a9 :: a10 :: some (.int x) :: tl) rest) : tc_V X G p l e R s m args below meth c cc nL Ts own ret hh Q cells slots u pc (a0 :: a1 :: a2 :: a3 :: a4 :: a5 :: a6 :: a7 :: a8 :: a9 :: a10 :: a11 :: tl) (.int x :: rest) :=
  tv_istore_h d (by simp only [List.length_cons]; show 11 < _; omega) hL kk
theorem tv_istore12 {x : Int32} {a0 a1 a2 a3 a4 a5 a6 a7 a8 a9 a10 a11 a12 : Option Value} {tl : List (Option Value)} (d : decode cc pc = .ok (.istore 12, 2)) (hL : (a0 :: a1 :: a2 :: a3 :: a4 :: a5 :: a6 :: a7 :: a8 :: a9 :: a10 :: a11 :: a12 :: tl).length = nL) (kk : tc_V X G p l e R s m args below meth c cc nL Ts own ret hh Q cells slots u (pc + 2) (a0 :: a1 :: a2 :: a3 :: a4 :: a5 :: a6 :: a7 :: a8 :: a9 :: a10 :: a11 :: some (.int x) :: tl) rest) : tc_V X G p l e R s m args below meth c cc nL Ts own ret hh Q cells slots u pc (a0 :: a1 :: a2 :: a3 :: a4 :: a5 :: a6 :: a7 :: a8 :: a9 :: a10 :: a11 :: a12 :: tl) (.int x :: rest) :=
  tv_istore_h d (by simp only [List.length_cons]; show 12 < _; omega) hL kk
theorem tv_istore13 {x : Int32} {a0 a1 a2 a3 a4 a5 a6 a7 a8 a9 a10 a11 a12 a13 : Option Value} {tl : List (Option Value)} (d : decode cc pc = .ok (.istore 13, 2)) (hL : (a0 :: a1 :: a2 :: a3 :: a4 :: a5 :: a6 :: a7 :: a8 :: a9 :: a10 :: a11 :: a12 :: a13 :: tl).length = nL) (kk : tc_V X G p l e R s m args below meth c cc nL Ts own ret hh Q cells slots u (pc + 2) (a0 :: a1 :: a2 :: a3 :: a4 :: a5 :: a6 :: a7 :: a8 :: a9 :: a10 :: a11 :: a12 :: some (.int x) :: tl) rest) : tc_V X G p l e R s m args below meth c cc nL Ts own ret hh Q cells slots u pc (a0 :: a1 :: a2 :: a3 :: a4 :: a5 :: a6 :: a7 :: a8 :: a9 :: a10 :: a11 :: a12 :: a13 :: tl) (.int x :: rest) :=
  tv_istore_h d (by simp only [List.length_cons]; show 13 < _; omega) hL kk
theorem tv_astore_g {k : Fin 4} {x : Nat} (d : decode cc pc = .ok (.astore_n k, 1)) (hn : (k : Nat) < lv.length) (hL : lv.length = nL) (kk : tc_V X G p l e R s m args below meth c cc nL Ts own ret hh Q cells slots u (pc + 1) (lv.set (k : Nat) (some (.ref x))) rest) : tc_V X G p l e R s m args below meth c cc nL Ts own ret hh Q cells slots u pc lv (.ref x :: rest) :=
  fun hx hb hm ho ht hr hk hq0 ls H locs hl hw => lv_astore_n hx hb d rfl hl (by omega) rfl (fun ls' hl' => kk hx hb hm ho ht hr hk hq0 ls' H locs (tc_st hn hl') hw)
theorem tv_astore_h {i : Nat} {x : Nat} (d : decode cc pc = .ok (.astore i, 2)) (hn : i < lv.length) (hL : lv.length = nL) (kk : tc_V X G p l e R s m args below meth c cc nL Ts own ret hh Q cells slots u (pc + 2) (lv.set i (some (.ref x))) rest) : tc_V X G p l e R s m args below meth c cc nL Ts own ret hh Q cells slots u pc lv (.ref x :: rest) :=
  fun hx hb hm ho ht hr hk hq0 ls H locs hl hw => lv_astore hx hb d hl (by omega) rfl (fun ls' hl' => kk hx hb hm ho ht hr hk hq0 ls' H locs (tc_st hn hl') hw)
theorem tv_astore0 {x : Nat} {a0 : Option Value} {tl : List (Option Value)} (d : decode cc pc = .ok (.astore_n 0, 1)) (hL : (a0 :: tl).length = nL) (kk : tc_V X G p l e R s m args below meth c cc nL Ts own ret hh Q cells slots u (pc + 1) (some (.ref x) :: tl) rest) : tc_V X G p l e R s m args below meth c cc nL Ts own ret hh Q cells slots u pc (a0 :: tl) (.ref x :: rest) :=
  tv_astore_g d (by simp only [List.length_cons]; show 0 < _; omega) hL kk
theorem tv_astore1 {x : Nat} {a0 a1 : Option Value} {tl : List (Option Value)} (d : decode cc pc = .ok (.astore_n 1, 1)) (hL : (a0 :: a1 :: tl).length = nL) (kk : tc_V X G p l e R s m args below meth c cc nL Ts own ret hh Q cells slots u (pc + 1) (a0 :: some (.ref x) :: tl) rest) : tc_V X G p l e R s m args below meth c cc nL Ts own ret hh Q cells slots u pc (a0 :: a1 :: tl) (.ref x :: rest) :=
  tv_astore_g d (by simp only [List.length_cons]; show 1 < _; omega) hL kk
theorem tv_astore2 {x : Nat} {a0 a1 a2 : Option Value} {tl : List (Option Value)} (d : decode cc pc = .ok (.astore_n 2, 1)) (hL : (a0 :: a1 :: a2 :: tl).length = nL) (kk : tc_V X G p l e R s m args below meth c cc nL Ts own ret hh Q cells slots u (pc + 1) (a0 :: a1 :: some (.ref x) :: tl) rest) : tc_V X G p l e R s m args below meth c cc nL Ts own ret hh Q cells slots u pc (a0 :: a1 :: a2 :: tl) (.ref x :: rest) :=
  tv_astore_g d (by simp only [List.length_cons]; show 2 < _; omega) hL kk
theorem tv_astore3 {x : Nat} {a0 a1 a2 a3 : Option Value} {tl : List (Option Value)} (d : decode cc pc = .ok (.astore_n 3, 1)) (hL : (a0 :: a1 :: a2 :: a3 :: tl).length = nL) (kk : tc_V X G p l e R s m args below meth c cc nL Ts own ret hh Q cells slots u (pc + 1) (a0 :: a1 :: a2 :: some (.ref x) :: tl) rest) : tc_V X G p l e R s m args below meth c cc nL Ts own ret hh Q cells slots u pc (a0 :: a1 :: a2 :: a3 :: tl) (.ref x :: rest) :=
  tv_astore_g d (by simp only [List.length_cons]; show 3 < _; omega) hL kk
theorem tv_astore4 {x : Nat} {a0 a1 a2 a3 a4 : Option Value} {tl : List (Option Value)} (d : decode cc pc = .ok (.astore 4, 2)) (hL : (a0 :: a1 :: a2 :: a3 :: a4 :: tl).length = nL) (kk : tc_V X G p l e R s m args below meth c cc nL Ts own ret hh Q cells slots u (pc + 2) (a0 :: a1 :: a2 :: a3 :: some (.ref x) :: tl) rest) : tc_V X G p l e R s m args below meth c cc nL Ts own ret hh Q cells slots u pc (a0 :: a1 :: a2 :: a3 :: a4 :: tl) (.ref x :: rest) :=
  tv_astore_h d (by simp only [List.length_cons]; show 4 < _; omega) hL kk
theorem tv_astore5 {x : Nat} {a0 a1 a2 a3 a4 a5 : Option Value} {tl : List (Option Value)} (d : decode cc pc = .ok (.astore 5, 2)) (hL : (a0 :: a1 :: a2 :: a3 :: a4 :: a5 :: tl).length = nL) (kk : tc_V X G p l e R s m args below meth c cc nL Ts own ret hh Q cells slots u (pc + 2) (a0 :: a1 :: a2 :: a3 :: a4 :: some (.ref x) :: tl) rest) : tc_V X G p l e R s m args below meth c cc nL Ts own ret hh Q cells slots u pc (a0 :: a1 :: a2 :: a3 :: a4 :: a5 :: tl) (.ref x :: rest) :=
  tv_astore_h d (by simp only [List.length_cons]; show 5 < _; omega) hL kk
theorem tv_astore6 {x : Nat} {a0 a1 a2 a3 a4 a5 a6 : Option Value} {tl : List (Option Value)} (d : decode cc pc = .ok (.astore 6, 2)) (hL : (a0 :: a1 :: a2 :: a3 :: a4 :: a5 :: a6 :: tl).length = nL) (kk : tc_V X G p l e R s m args below meth c cc nL Ts own ret hh Q cells slots u (pc + 2) (a0 :: a1 :: a2 :: a3 :: a4 :: a5 :: some (.ref x) :: tl) rest) : tc_V X G p l e R s m args below meth c cc nL Ts own ret hh Q cells slots u pc (a0 :: a1 :: a2 :: a3 :: a4 :: a5 :: a6 :: tl) (.ref x :: rest) :=
  tv_astore_h d (by simp only [List.length_cons]; show 6 < _; omega) hL kk
theorem tv_astore7 {x : Nat} {a0 a1 a2 a3 a4 a5 a6 a7 : Option Value} {tl : List (Option Value)} (d : decode cc pc = .ok (.astore 7, 2)) (hL : (a0 :: a1 :: a2 :: a3 :: a4 :: a5 :: a6 :: a7 :: tl).length = nL) (kk : tc_V X G p l e R s m args below meth c cc nL Ts own ret hh Q cells slots u (pc + 2) (a0 :: a1 :: a2 :: a3 :: a4 :: a5 :: a6 :: some (.ref x) :: tl) rest) : tc_V X G p l e R s m args below meth c cc nL Ts own ret hh Q cells slots u pc (a0 :: a1 :: a2 :: a3 :: a4 :: a5 :: a6 :: a7 :: tl) (.ref x :: rest) :=
  tv_astore_h d (by simp only [List.length_cons]; show 7 < _; omega) hL kk
theorem tv_astore8 {x : Nat} {a0 a1 a2 a3 a4 a5 a6 a7 a8 : Option Value} {tl : List (Option Value)} (d : decode cc pc = .ok (.astore 8, 2)) (hL : (a0 :: a1 :: a2 :: a3 :: a4 :: a5 :: a6 :: a7 :: a8 :: tl).length = nL) (kk : tc_V X G p l e R s m args below meth c cc nL Ts own ret hh Q cells slots u (pc + 2) (a0 :: a1 :: a2 :: a3 :: a4 :: a5 :: a6 :: a7 :: some (.ref x) :: tl) rest) : tc_V X G p l e R s m args below meth c cc nL Ts own ret hh Q cells slots u pc (a0 :: a1 :: a2 :: a3 :: a4 :: a5 :: a6 :: a7 :: a8 :: tl) (.ref x :: rest) :=
  tv_astore_h d (by simp only [List.length_cons]; show 8 < _; omega) hL kk
theorem tv_astore9 {x : Nat} {a0 a1 a2 a3 a4 a5 a6 a7 a8 a9 : Option Value} {tl : List (Option Value)} (d : decode cc pc = .ok (.astore 9, 2)) (hL : (a0 :: a1 :: a2 :: a3 :: a4 :: a5 :: a6 :: a7 :: a8 :: a9 :: tl).length = nL) (kk : tc_V X G p l e R s m args below meth c cc nL Ts own ret hh Q cells slots u (pc + 2) (a0 :: a1 :: a2 :: a3 :: a4 :: a5 :: a6 :: a7 :: a8 :: some (.ref x) :: tl) rest) : tc_V X G p l e R s m args below meth c cc nL Ts own ret hh Q cells slots u pc (a0 :: a1 :: a2 :: a3 :: a4 :: a5 :: a6 :: a7 :: a8 :: a9 :: tl) (.ref x :: rest) :=
  tv_astore_h d (by simp only [List.length_cons]; show 9 < _; omega) hL kk
theorem tv_astore10 {x : Nat} {a0 a1 a2 a3 a4 a5 a6 a7 a8 a9 a10 : Option Value} {tl : List (Option Value)} (d : decode cc pc = .ok (.astore 10, 2)) (hL : (a0 :: a1 :: a2 :: a3 :: a4 :: a5 :: a6 :: a7 :: a8 :: a9 :: a10 :: tl).length = nL) (kk : tc_V X G p l e R s m args below meth c cc nL Ts own ret hh Q cells slots u (pc + 2) (a0 :: a1 :: a2 :: a3 :: a4 :: a5 :: a6 :: a7 :: a8 :: a9 :: some (.ref x) :: tl) rest) : tc_V X G p l e R s m args below meth c cc nL Ts own ret hh Q cells slots u pc (a0 :: a1 :: a2 :: a3 :: a4 :: a5 :: a6 :: a7 :: a8 :: a9 :: a10 :: tl) (.ref x :: rest) :=
  tv_astore_h d (by simp only [List.length_cons]; show 10 < _; omega) hL kk
theorem tv_astore11 {x : Nat} {a0 a1 a2 a3 a4 a5 a6 a7 a8 a9 a10 a11 : Option Value} {tl : List (Option Value)} (d : decode cc pc = .ok (.astore 11, 2)) (hL : (a0 :: a1 :: a2 :: a3 :: a4 :: a5 :: a6 :: a7 :: a8 :: a9 :: a10 :: a11 :: tl).length = nL) (kk : tc_V X G p l e R s m args below meth c cc nL Ts own ret hh Q cells slots u (pc + 2) (a0 :: a1 :: a2 :: a3 :: a4 :: a5 :: a6 :: a7 :: a8 :: a9 :: a10 :: some (.ref x) :: tl) rest) : tc_V X G p l e R s m args below meth c cc nL Ts own ret hh Q cells slots u pc (a0 :: a1 :: a2 :: a3 :: a4 :: a5 :: a6 :: a7 :: a8 :: a9 :: a10 :: a11 :: tl) (.ref x :: rest) :=
  tv_astore_h d (by simp only [List.length_cons]; show 11 < _; omega) hL kk
theorem tv_astore12 {x : Nat} {a0 a1 a2 a3 a4 a5 a6 a7 a8 a9 a10 a11 a12 : Option Value} {tl : List (Option Value)} (d : decode cc pc = .ok (.astore 12, 2)) (hL : (a0 :: a1 :: a2 :: a3 :: a4 :: a5 :: a6 :: a7 :: a8 :: a9 :: a10 :: a11 :: a12 :: tl).length = nL) (kk : tc_V X G p l e R s m args below meth c cc nL Ts own ret hh Q cells slots u (pc + 2) (a0 :: a1 :: a2 :: a3 :: a4 :: a5 :: a6 :: a7 :: a8 :: a9 :: a10 :: a11 :: some (.ref x) :: tl) rest) : tc_V X G p l e R s m args below meth c cc nL Ts own ret hh Q cells slots u pc (a0 :: a1 :: a2 :: a3 :: a4 :: a5 :: a6 :: a7 :: a8 :: a9 :: a10 :: a11 :: a12 :: tl) (.ref x :: rest) :=
  tv_astore_h d (by simp only [List.length_cons]; show 12 < _; omega) hL kk
theorem tv_astore13 {x : Nat} {a0 a1 a2 a3 a4 a5 a6 a7 a8 a9 a10 a11 a12 a13 : Option Value} {tl : List (Option Value)} (d : decode cc pc = .ok (.astore 13, 2)) (hL : (a0 :: a1 :: a2 :: a3 :: a4 :: a5 :: a6 :: a7 :: a8 :: a9 :: a10 :: a11 :: a12 :: a13 :: tl).length = nL) (kk : tc_V X G p l e R s m args below meth c cc nL Ts own ret hh Q cells slots u (pc + 2) (a0 :: a1 :: a2 :: a3 :: a4 :: a5 :: a6 :: a7 :: a8 :: a9 :: a10 :: a11 :: a12 :: some (.ref x) :: tl) rest) : tc_V X G p l e R s m args below meth c cc nL Ts own ret hh Q cells slots u pc (a0 :: a1 :: a2 :: a3 :: a4 :: a5 :: a6 :: a7 :: a8 :: a9 :: a10 :: a11 :: a12 :: a13 :: tl) (.ref x :: rest) :=
  tv_astore_h d (by simp only [List.length_cons]; show 13 < _; omega) hL kk
theorem tv_iinc_g {i : Nat} {n : Int} {x v : Int32} (d : decode cc pc = .ok (.iinc i n, 3)) (hv : Int32.ofInt n = v) (hi : lv[i]? = some (some (.int x))) (hL : lv.length = nL) (kk : tc_V X G p l e R s m args below meth c cc nL Ts own ret hh Q cells slots u (pc + 3) (lv.set i (some (.int (x + v)))) rest) : tc_V X G p l e R s m args below meth c cc nL Ts own ret hh Q cells slots u pc lv rest := by
  intro hx hb hm ho ht hr hk hq0 ls H locs hl hw  
  have hn : i < lv.length := (List.getElem?_eq_some_iff.mp hi).1
  have hm1 : (i, Value.int x) ∈ tc_as 0 lv := (tc_as_mem lv 0 i _).mpr ⟨Nat.zero_le _, hi, rfl⟩
  obtain ⟨k, hk1⟩ := List.getElem?_of_mem hm1
  exact lv_iinc (k := k) hx hb d hl hk1 (by rw [hv]) (by omega) rfl (fun ls' hl' => kk hx hb hm ho ht hr hk hq0 ls' H locs (tc_st hn hl') hw)
theorem tv_iinc0 {n : Int} {x v : Int32} {tl : List (Option Value)} (d : decode cc pc = .ok (.iinc 0 n, 3)) (hv : Int32.ofInt n = v) (hL : (some (.int x) :: tl).length = nL) (kk : tc_V X G p l e R s m args below meth c cc nL Ts own ret hh Q cells slots u (pc + 3) (some (.int (x + v)) :: tl) rest) : tc_V X G p l e R s m args below meth c cc nL Ts own ret hh Q cells slots u pc (some (.int x) :: tl) rest :=
  tv_iinc_g d hv (by rfl) hL kk
theorem tv_iinc1 {n : Int} {x v : Int32} {a0 : Option Value} {tl : List (Option Value)} (d : decode cc pc = .ok (.iinc 1 n, 3)) (hv : Int32.ofInt n = v) (hL : (a0 :: some (.int x) :: tl).length = nL) (kk : tc_V X G p l e R s m args below meth c cc nL Ts own ret hh Q cells slots u (pc + 3) (a0 :: some (.int (x + v)) :: tl) rest) : tc_V X G p l e R s m args below meth c cc nL Ts own ret hh Q cells slots u pc (a0 :: some (.int x) :: tl) rest :=
  tv_iinc_g d hv (by rfl) hL kk
theorem tv_iinc2 {n : Int} {x v : Int32} {a0 a1 : Option Value} {tl : List (Option Value)} (d : decode cc pc = .ok (.iinc 2 n, 3)) (hv : Int32.ofInt n = v) (hL : (a0 :: a1 :: some (.int x) :: tl).length = nL) (kk : tc_V X G p l e R s m args below meth c cc nL Ts own ret hh Q cells slots u (pc + 3) (a0 :: a1 :: some (.int (x + v)) :: tl) rest) : tc_V X G p l e R s m args below meth c cc nL Ts own ret hh Q cells slots u pc (a0 :: a1 :: some (.int x) :: tl) rest :=
  tv_iinc_g d hv (by rfl) hL kk
theorem tv_iinc3 {n : Int} {x v : Int32} {a0 a1 a2 : Option Value} {tl : List (Option Value)} (d : decode cc pc = .ok (.iinc 3 n, 3)) (hv : Int32.ofInt n = v) (hL : (a0 :: a1 :: a2 :: some (.int x) :: tl).length = nL) (kk : tc_V X G p l e R s m args below meth c cc nL Ts own ret hh Q cells slots u (pc + 3) (a0 :: a1 :: a2 :: some (.int (x + v)) :: tl) rest) : tc_V X G p l e R s m args below meth c cc nL Ts own ret hh Q cells slots u pc (a0 :: a1 :: a2 :: some (.int x) :: tl) rest :=
  tv_iinc_g d hv (by rfl) hL kk
theorem tv_iinc4 {n : Int} {x v : Int32} {a0 a1 a2 a3 : Option Value} {tl : List (Option Value)} (d : decode cc pc = .ok (.iinc 4 n, 3)) (hv : Int32.ofInt n = v) (hL : (a0 :: a1 :: a2 :: a3 :: some (.int x) :: tl).length = nL) (kk : tc_V X G p l e R s m args below meth c cc nL Ts own ret hh Q cells slots u (pc + 3) (a0 :: a1 :: a2 :: a3 :: some (.int (x + v)) :: tl) rest) : tc_V X G p l e R s m args below meth c cc nL Ts own ret hh Q cells slots u pc (a0 :: a1 :: a2 :: a3 :: some (.int x) :: tl) rest :=
  tv_iinc_g d hv (by rfl) hL kk
theorem tv_iinc5 {n : Int} {x v : Int32} {a0 a1 a2 a3 a4 : Option Value} {tl : List (Option Value)} (d : decode cc pc = .ok (.iinc 5 n, 3)) (hv : Int32.ofInt n = v) (hL : (a0 :: a1 :: a2 :: a3 :: a4 :: some (.int x) :: tl).length = nL) (kk : tc_V X G p l e R s m args below meth c cc nL Ts own ret hh Q cells slots u (pc + 3) (a0 :: a1 :: a2 :: a3 :: a4 :: some (.int (x + v)) :: tl) rest) : tc_V X G p l e R s m args below meth c cc nL Ts own ret hh Q cells slots u pc (a0 :: a1 :: a2 :: a3 :: a4 :: some (.int x) :: tl) rest :=
  tv_iinc_g d hv (by rfl) hL kk
theorem tv_iinc6 {n : Int} {x v : Int32} {a0 a1 a2 a3 a4 a5 : Option Value} {tl : List (Option Value)} (d : decode cc pc = .ok (.iinc 6 n, 3)) (hv : Int32.ofInt n = v) (hL : (a0 :: a1 :: a2 :: a3 :: a4 :: a5 :: some (.int x) :: tl).length = nL) (kk : tc_V X G p l e R s m args below meth c cc nL Ts own ret hh Q cells slots u (pc + 3) (a0 :: a1 :: a2 :: a3 :: a4 :: a5 :: some (.int (x + v)) :: tl) rest) : tc_V X G p l e R s m args below meth c cc nL Ts own ret hh Q cells slots u pc (a0 :: a1 :: a2 :: a3 :: a4 :: a5 :: some (.int x) :: tl) rest :=
  tv_iinc_g d hv (by rfl) hL kk
theorem tv_iinc7 {n : Int} {x v : Int32} {a0 a1 a2 a3 a4 a5 a6 : Option Value} {tl : List (Option Value)} (d : decode cc pc = .ok (.iinc 7 n, 3)) (hv : Int32.ofInt n = v) (hL : (a0 :: a1 :: a2 :: a3 :: a4 :: a5 :: a6 :: some (.int x) :: tl).length = nL) (kk : tc_V X G p l e R s m args below meth c cc nL Ts own ret hh Q cells slots u (pc + 3) (a0 :: a1 :: a2 :: a3 :: a4 :: a5 :: a6 :: some (.int (x + v)) :: tl) rest) : tc_V X G p l e R s m args below meth c cc nL Ts own ret hh Q cells slots u pc (a0 :: a1 :: a2 :: a3 :: a4 :: a5 :: a6 :: some (.int x) :: tl) rest :=
  tv_iinc_g d hv (by rfl) hL kk
theorem tv_iinc8 {n : Int} {x v : Int32} {a0 a1 a2 a3 a4 a5 a6 a7 : Option Value} {tl : List (Option Value)} (d : decode cc pc = .ok (.iinc 8 n, 3)) (hv : Int32.ofInt n = v) (hL : (a0 :: a1 :: a2 :: a3 :: a4 :: a5 :: a6 :: a7 :: some (.int x) :: tl).length = nL) (kk : tc_V X G p l e R s m args below meth c cc nL Ts own ret hh Q cells slots u (pc + 3) (a0 :: a1 :: a2 :: a3 :: a4 :: a5 :: a6 :: a7 :: some (.int (x + v)) :: tl) rest) : tc_V X G p l e R s m args below meth c cc nL Ts own ret hh Q cells slots u pc (a0 :: a1 :: a2 :: a3 :: a4 :: a5 :: a6 :: a7 :: some (.int x) :: tl) rest :=
  tv_iinc_g d hv (by rfl) hL kk
theorem tv_iinc9 {n : Int} {x v : Int32} {a0 a1 a2 a3 a4 a5 a6 a7 a8 : Option Value} {tl : List (Option Value)} (d : decode cc pc = .ok (.iinc 9 n, 3)) (hv : Int32.ofInt n = v) (hL : (a0 :: a1 :: a2 :: a3 :: a4 :: a5 :: a6 :: a7 :: a8 :: some (.int x) :: tl).length = nL) (kk : tc_V X G p l e R s m args below meth c cc nL Ts own ret hh Q cells slots u (pc + 3) (a0 :: a1 :: a2 :: a3 :: a4 :: a5 :: a6 :: a7 :: a8 :: some (.int (x + v)) :: tl) rest) : tc_V X G p l e R s m args below meth c cc nL Ts own ret hh Q cells slots u pc (a0 :: a1 :: a2 :: a3 :: a4 :: a5 :: a6 :: a7 :: a8 :: some (.int x) :: tl) rest :=
  tv_iinc_g d hv (by rfl) hL kk
theorem tv_iinc10 {n : Int} {x v : Int32} {a0 a1 a2 a3 a4 a5 a6 a7 a8 a9 : Option Value} {tl : List (Option Value)} (d : decode cc pc = .ok (.iinc 10 n, 3)) (hv : Int32.ofInt n = v) (hL : (a0 :: a1 :: a2 :: a3 :: a4 :: a5 :: a6 :: a7 :: a8 :: a9 :: some (.int x) :: tl).length = nL) (kk : tc_V X G p l e R s m args below meth c cc nL Ts own ret hh Q cells slots u (pc + 3) (a0 :: a1 :: a2 :: a3 :: a4 :: a5 :: a6 :: a7 :: a8 :: a9 :: some (.int (x + v)) :: tl) rest) : tc_V X G p l e R s m args below meth c cc nL Ts own ret hh Q cells slots u pc (a0 :: a1 :: a2 :: a3 :: a4 :: a5 :: a6 :: a7 :: a8 :: a9 :: some (.int x) :: tl) rest :=
  tv_iinc_g d hv (by rfl) hL kk
theorem tv_iinc11 {n : Int} {x v : Int32} {a0 a1 a2 a3 a4 a5 a6 a7 a8 a9 a10 : Option Value} {tl : List (Option Value)} (d : decode cc pc = .ok (.iinc 11 n, 3)) (hv : Int32.ofInt n = v) (hL : (a0 :: a1 :: a2 :: a3 :: a4 :: a5 :: a6 :: a7 :: a8 :: a9 :: a10 :: some (.int x) :: tl).length = nL) (kk : tc_V X G p l e R s m args below meth c cc nL Ts own ret hh Q cells slots u (pc + 3) (a0 :: a1 :: a2 :: a3 :: a4 :: a5 :: a6 :: a7 :: a8 :: a9 :: a10 :: some (.int (x + v)) :: tl) rest) : tc_V X G p l e R s m args below meth c cc nL Ts own ret hh Q cells slots u pc (a0 :: a1 :: a2 :: a3 :: a4 :: a5 :: a6 :: a7 :: a8 :: a9 :: a10 :: some (.int x) :: tl) rest :=
  tv_iinc_g d hv (by rfl) hL kk
theorem tv_iinc12 {n : Int} {x v : Int32} {a0 a1 a2 a3 a4 a5 a6 a7 a8 a9 a10 a11 : Option Value} {tl : List (Option Value)} (d : decode cc pc = .ok (.iinc 12 n, 3)) (hv : Int32.ofInt n = v) (hL : (a0 :: a1 :: a2 :: a3 :: a4 :: a5 :: a6 :: a7 :: a8 :: a9 :: a10 :: a11 :: some (.int x) :: tl).length = nL) (kk : tc_V X G p l e R s m args below meth c cc nL Ts own ret hh Q cells slots u (pc + 3) (a0 :: a1 :: a2 :: a3 :: a4 :: a5 :: a6 :: a7 :: a8 :: a9 :: a10 :: a11 :: some (.int (x + v)) :: tl) rest) : tc_V X G p l e R s m args below meth c cc nL Ts own ret hh Q cells slots u pc (a0 :: a1 :: a2 :: a3 :: a4 :: a5 :: a6 :: a7 :: a8 :: a9 :: a10 :: a11 :: some (.int x) :: tl) rest :=
  tv_iinc_g d hv (by rfl) hL kk
theorem tv_iinc13 {n : Int} {x v : Int32} {a0 a1 a2 a3 a4 a5 a6 a7 a8 a9 a10 a11 a12 : Option Value} {tl : List (Option Value)} (d : decode cc pc = .ok (.iinc 13 n, 3)) (hv : Int32.ofInt n = v) (hL : (a0 :: a1 :: a2 :: a3 :: a4 :: a5 :: a6 :: a7 :: a8 :: a9 :: a10 :: a11 :: a12 :: some (.int x) :: tl).length = nL) (kk : tc_V X G p l e R s m args below meth c cc nL Ts own ret hh Q cells slots u (pc + 3) (a0 :: a1 :: a2 :: a3 :: a4 :: a5 :: a6 :: a7 :: a8 :: a9 :: a10 :: a11 :: a12 :: some (.int (x + v)) :: tl) rest) : tc_V X G p l e R s m args below meth c cc nL Ts own ret hh Q cells slots u pc (a0 :: a1 :: a2 :: a3 :: a4 :: a5 :: a6 :: a7 :: a8 :: a9 :: a10 :: a11 :: a12 :: some (.int x) :: tl) rest :=
  tv_iinc_g d hv (by rfl) hL kk
theorem tv_if_eq {x : Int32} {off : Int} (tgt : Nat) (d : decode cc pc = .ok (.ifCond .eq off, 3)) (ht : (pc : Int) + off = (tgt : Int)) (kt : x = 0 → tc_V X G p l e R s m args below meth c cc nL Ts own ret hh Q cells slots u tgt lv rest) (kf : ¬ x = 0 → tc_V X G p l e R s m args below meth c cc nL Ts own ret hh Q cells slots u (pc + 3) lv rest) : tc_V X G p l e R s m args below meth c cc nL Ts own ret hh Q cells slots u pc lv (.int x :: rest) :=
  fun hx hb hm ho hs hr hk hq0 ls H locs hl hw => lv_if_eq hx hb d ht (fun h => kt h hx hb hm ho hs hr hk hq0 ls H locs hl hw) (fun h => kf h hx hb hm ho hs hr hk hq0 ls H locs hl hw)
theorem tv_icmp_eq {x y : Int32} {off : Int} (tgt : Nat) (d : decode cc pc = .ok (.if_icmp .eq off, 3)) (ht : (pc : Int) + off = (tgt : Int)) (kt : x = y → tc_V X G p l e R s m args below meth c cc nL Ts own ret hh Q cells slots u tgt lv rest) (kf : ¬ x = y → tc_V X G p l e R s m args below meth c cc nL Ts own ret hh Q cells slots u (pc + 3) lv rest) : tc_V X G p l e R s m args below meth c cc nL Ts own ret hh Q cells slots u pc lv (.int y :: .int x :: rest) :=
  fun hx hb hm ho hs hr hk hq0 ls H locs hl hw => lv_icmp_eq hx hb d ht (fun h => kt h hx hb hm ho hs hr hk hq0 ls H locs hl hw) (fun h => kf h hx hb hm ho hs hr hk hq0 ls H locs hl hw)
theorem tv_if_ne {x : Int32} {off : Int} (tgt : Nat) (d : decode cc pc = .ok (.ifCond .ne off, 3)) (ht : (pc : Int) + off = (tgt : Int)) (kt : ¬ x = 0 → tc_V X G p l e R s m args below meth c cc nL Ts own ret hh Q cells slots u tgt lv rest) (kf : x = 0 → tc_V X G p l e R s m args below meth c cc nL Ts own ret hh Q cells slots u (pc + 3) lv rest) : tc_V X G p l e R s m args below meth c cc nL Ts own ret hh Q cells slots u pc lv (.int x :: rest) :=
  fun hx hb hm ho hs hr hk hq0 ls H locs hl hw => lv_if_ne hx hb d ht (fun h => kt h hx hb hm ho hs hr hk hq0 ls H locs hl hw) (fun h => kf h hx hb hm ho hs hr hk hq0 ls H locs hl hw)
theorem tv_icmp_ne {x y : Int32} {off : Int} (tgt : Nat) (d : decode cc pc = .ok (.if_icmp .ne off, 3)) (ht : (pc : Int) + off = (tgt : Int)) (kt : ¬ x = y → tc_V X G p l e R s m args below meth c cc nL Ts own ret hh Q cells slots u tgt lv rest) (kf : x = y → tc_V X G p l e R s m args below meth c cc nL Ts own ret hh Q cells slots u (pc + 3) lv rest) : tc_V X G p l e R s m args below meth c cc nL Ts own ret hh Q cells slots u pc lv (.int y :: .int x :: rest) :=
  fun hx hb hm ho hs hr hk hq0 ls H locs hl hw => lv_icmp_ne hx hb d ht (fun h => kt h hx hb hm ho hs hr hk hq0 ls H locs hl hw) (fun h => kf h hx hb hm ho hs hr hk hq0 ls H locs hl hw)
theorem tv_if_lt {x : Int32} {off : Int} (tgt : Nat) (d : decode cc pc = .ok (.ifCond .lt off, 3)) (ht : (pc : Int) + off = (tgt : Int)) (kt : x < 0 → tc_V X G p l e R s m args below meth c cc nL Ts own ret hh Q cells slots u tgt lv rest) (kf : ¬ x < 0 → tc_V X G p l e R s m args below meth c cc nL Ts own ret hh Q cells slots u (pc + 3) lv rest) : tc_V X G p l e R s m args below meth c cc nL Ts own ret hh Q cells slots u pc lv (.int x :: rest) :=
  fun hx hb hm ho hs hr hk hq0 ls H locs hl hw => lv_if_lt hx hb d ht (fun h => kt h hx hb hm ho hs hr hk hq0 ls H locs hl hw) (fun h => kf h hx hb hm ho hs hr hk hq0 ls H locs hl hw)
theorem tv_icmp_lt {x y : Int32} {off : Int} (tgt : Nat) (d : decode cc pc = .ok (.if_icmp .lt off, 3)) (ht : (pc : Int) + off = (tgt : Int)) (kt : x < y → tc_V X G p l e R s m args below meth c cc nL Ts own ret hh Q cells slots u tgt lv rest) (kf : ¬ x < y → tc_V X G p l e R s m args below meth c cc nL Ts own ret hh Q cells slots u (pc + 3) lv rest) : tc_V X G p l e R s m args below meth c cc nL Ts own ret hh Q cells slots u pc lv (.int y :: .int x :: rest) :=
  fun hx hb hm ho hs hr hk hq0 ls H locs hl hw => lv_icmp_lt hx hb d ht (fun h => kt h hx hb hm ho hs hr hk hq0 ls H locs hl hw) (fun h => kf h hx hb hm ho hs hr hk hq0 ls H locs hl hw)
theorem tv_if_ge {x : Int32} {off : Int} (tgt : Nat) (d : decode cc pc = .ok (.ifCond .ge off, 3)) (ht : (pc : Int) + off = (tgt : Int)) (kt : 0 ≤ x → tc_V X G p l e R s m args below meth c cc nL Ts own ret hh Q cells slots u tgt lv rest) (kf : ¬ 0 ≤ x → tc_V X G p l e R s m args below meth c cc nL Ts own ret hh Q cells slots u (pc + 3) lv rest) : tc_V X G p l e R s m args below meth c cc nL Ts own ret hh Q cells slots u pc lv (.int x :: rest) :=
  fun hx hb hm ho hs hr hk hq0 ls H locs hl hw => lv_if_ge hx hb d ht (fun h => kt h hx hb hm ho hs hr hk hq0 ls H locs hl hw) (fun h => kf h hx hb hm ho hs hr hk hq0 ls H locs hl hw)
theorem tv_icmp_ge {x y : Int32} {off : Int} (tgt : Nat) (d : decode cc pc = .ok (.if_icmp .ge off, 3)) (ht : (pc : Int) + off = (tgt : Int)) (kt : y ≤ x → tc_V X G p l e R s m args below meth c cc nL Ts own ret hh Q cells slots u tgt lv rest) (kf : ¬ y ≤ x → tc_V X G p l e R s m args below meth c cc nL Ts own ret hh Q cells slots u (pc + 3) lv rest) : tc_V X G p l e R s m args below meth c cc nL Ts own ret hh Q cells slots u pc lv (.int y :: .int x :: rest) :=
  fun hx hb hm ho hs hr hk hq0 ls H locs hl hw => lv_icmp_ge hx hb d ht (fun h => kt h hx hb hm ho hs hr hk hq0 ls H locs hl hw) (fun h => kf h hx hb hm ho hs hr hk hq0 ls H locs hl hw)
theorem tv_if_gt {x : Int32} {off : Int} (tgt : Nat) (d : decode cc pc = .ok (.ifCond .gt off, 3)) (ht : (pc : Int) + off = (tgt : Int)) (kt : 0 < x → tc_V X G p l e R s m args below meth c cc nL Ts own ret hh Q cells slots u tgt lv rest) (kf : ¬ 0 < x → tc_V X G p l e R s m args below meth c cc nL Ts own ret hh Q cells slots u (pc + 3) lv rest) : tc_V X G p l e R s m args below meth c cc nL Ts own ret hh Q cells slots u pc lv (.int x :: rest) :=
  fun hx hb hm ho hs hr hk hq0 ls H locs hl hw => lv_if_gt hx hb d ht (fun h => kt h hx hb hm ho hs hr hk hq0 ls H locs hl hw) (fun h => kf h hx hb hm ho hs hr hk hq0 ls H locs hl hw)
theorem tv_icmp_gt {x y : Int32} {off : Int} (tgt : Nat) (d : decode cc pc = .ok (.if_icmp .gt off, 3)) (ht : (pc : Int) + off = (tgt : Int)) (kt : y < x → tc_V X G p l e R s m args below meth c cc nL Ts own ret hh Q cells slots u tgt lv rest) (kf : ¬ y < x → tc_V X G p l e R s m args below meth c cc nL Ts own ret hh Q cells slots u (pc + 3) lv rest) : tc_V X G p l e R s m args below meth c cc nL Ts own ret hh Q cells slots u pc lv (.int y :: .int x :: rest) :=
  fun hx hb hm ho hs hr hk hq0 ls H locs hl hw => lv_icmp_gt hx hb d ht (fun h => kt h hx hb hm ho hs hr hk hq0 ls H locs hl hw) (fun h => kf h hx hb hm ho hs hr hk hq0 ls H locs hl hw)
theorem tv_if_le {x : Int32} {off : Int} (tgt : Nat) (d : decode cc pc = .ok (.ifCond .le off, 3)) (ht : (pc : Int) + off = (tgt : Int)) (kt : x ≤ 0 → tc_V X G p l e R s m args below meth c cc nL Ts own ret hh Q cells slots u tgt lv rest) (kf : ¬ x ≤ 0 → tc_V X G p l e R s m args below meth c cc nL Ts own ret hh Q cells slots u (pc + 3) lv rest) : tc_V X G p l e R s m args below meth c cc nL Ts own ret hh Q cells slots u pc lv (.int x :: rest) :=
  fun hx hb hm ho hs hr hk hq0 ls H locs hl hw => lv_if_le hx hb d ht (fun h => kt h hx hb hm ho hs hr hk hq0 ls H locs hl hw) (fun h => kf h hx hb hm ho hs hr hk hq0 ls H locs hl hw)
theorem tv_icmp_le {x y : Int32} {off : Int} (tgt : Nat) (d : decode cc pc = .ok (.if_icmp .le off, 3)) (ht : (pc : Int) + off = (tgt : Int)) (kt : x ≤ y → tc_V X G p l e R s m args below meth c cc nL Ts own ret hh Q cells slots u tgt lv rest) (kf : ¬ x ≤ y → tc_V X G p l e R s m args below meth c cc nL Ts own ret hh Q cells slots u (pc + 3) lv rest) : tc_V X G p l e R s m args below meth c cc nL Ts own ret hh Q cells slots u pc lv (.int y :: .int x :: rest) :=
  fun hx hb hm ho hs hr hk hq0 ls H locs hl hw => lv_icmp_le hx hb d ht (fun h => kt h hx hb hm ho hs hr hk hq0 ls H locs hl hw) (fun h => kf h hx hb hm ho hs hr hk hq0 ls H locs hl hw)
theorem tv_goto {off : Int} (tgt : Nat) (d : decode cc pc = .ok (.goto off, 3)) (ht : (pc : Int) + off = (tgt : Int)) (k : tc_V X G p l e R s m args below meth c cc nL Ts own ret hh Q cells slots u tgt lv rest) : tc_V X G p l e R s m args below meth c cc nL Ts own ret hh Q cells slots u pc lv rest :=
  fun hx hb hm ho hs hr hk hq0 ls H locs hl hw => lv_goto hx hb d ht (k hx hb hm ho hs hr hk hq0 ls H locs hl hw)
theorem tv_lookup {dflt : Int} {ps : Array (Int × Int)} {len : Nat} {x : Int32} {off : Int} (tgt : Nat) (d : decode cc pc = .ok (.lookupswitch dflt ps, len)) (hp : (ps.toList.zip (ps.toList.drop 1)).all (fun (a, next) => a.1 < next.1) = true) (hof : Op.lookupswitch.offset ps.toList dflt x.toInt = off) (ht : (pc : Int) + off = (tgt : Int)) (k : tc_V X G p l e R s m args below meth c cc nL Ts own ret hh Q cells slots u tgt lv rest) : tc_V X G p l e R s m args below meth c cc nL Ts own ret hh Q cells slots u pc lv (.int x :: rest) :=
  fun hx hb hm ho hs hr hk hq0 ls H locs hl hw => lv_lookup hx hb d hp hof ht (k hx hb hm ho hs hr hk hq0 ls H locs hl hw)
theorem tv_tableOut {dflt lo hi : Int} {offs : Array Int} {len : Nat} {x : Int32} (tgt : Nat) (d : decode cc pc = .ok (.tableswitch dflt lo hi offs, len)) (h : x.toInt < lo ∨ hi < x.toInt) (ht : (pc : Int) + dflt = (tgt : Int)) (k : tc_V X G p l e R s m args below meth c cc nL Ts own ret hh Q cells slots u tgt lv rest) : tc_V X G p l e R s m args below meth c cc nL Ts own ret hh Q cells slots u pc lv (.int x :: rest) :=
  fun hx hb hm ho hs hr hk hq0 ls H locs hl hw => lv_tableOut hx hb d h ht (k hx hb hm ho hs hr hk hq0 ls H locs hl hw)
theorem tv_tableIn {dflt lo hi : Int} {offs : Array Int} {len : Nat} {x : Int32} {off : Int} (tgt : Nat) (d : decode cc pc = .ok (.tableswitch dflt lo hi offs, len)) (h1 : ¬ x.toInt < lo) (h2 : ¬ hi < x.toInt) (hof : offs[(x.toInt - lo).toNat]? = some off) (ht : (pc : Int) + off = (tgt : Int)) (k : tc_V X G p l e R s m args below meth c cc nL Ts own ret hh Q cells slots u tgt lv rest) : tc_V X G p l e R s m args below meth c cc nL Ts own ret hh Q cells slots u pc lv (.int x :: rest) :=
  fun hx hb hm ho hs hr hk hq0 ls H locs hl hw => lv_tableIn hx hb d h1 h2 hof ht (k hx hb hm ho hs hr hk hq0 ls H locs hl hw)
theorem tv_ldc {index : Nat} {v : Int32} (hcn : Cond.constant own index v ∈ Ts) (d : decode cc pc = .ok (.ldc index, 2)) (k : tc_V X G p l e R s m args below meth c cc nL Ts own ret hh Q cells slots u (pc + 2) lv (.int v :: rest)) : tc_V X G p l e R s m args below meth c cc nL Ts own ret hh Q cells slots u pc lv rest :=
  fun hx hb hm ho ht hr hk hq0 ls H locs hl hw => lv_ldc hx hb ho (ht _ hcn) d (k hx hb hm ho ht hr hk hq0 ls H locs hl hw)
theorem tc_fs {G : tc_G} {u : tc_S} {k j f : Nat} {fl : List Nat} (h : fl[j]? = some f) : (fl.mapIdx fun j f => if f = 0 then Value.int (u k j) else .ref (tc_ad G (f - 1)))[j]? = some (if f = 0 then Value.int (u k j) else .ref (tc_ad G (f - 1))) := by
  rw [List.getElem?_mapIdx, h]; rfl
theorem tc_fs_set {G : tc_G} {u : tc_S} {k j : Nat} {x : Int32} {fl : List Nat} (h : fl[j]? = some 0) :
    (fl.mapIdx fun j f => if f = 0 then Value.int (u k j) else .ref (tc_ad G (f - 1))).set j (.int x) = fl.mapIdx fun i f => if f = 0 then Value.int (tc_up u k j x k i) else .ref (tc_ad G (f - 1)) := by
  apply List.ext_getElem?
  intro i
  have hlt : j < fl.length := (List.getElem?_eq_some_iff.mp h).1
  rw [List.getElem?_set, List.getElem?_mapIdx, List.getElem?_mapIdx, List.length_mapIdx]
  by_cases hi : j = i
  · subst hi
    rw [if_pos rfl, if_pos hlt, h]
    simp only [Option.map_some, if_true]
    rw [tc_up_self]
  · rw [if_neg hi]
    cases fl[i]? with
    | none => rfl
    | some f =>
      simp only [Option.map_some]
      rw [tc_up_at (fun q => hi q.symm)]
theorem tv_getI {k ci index N : Nat} {fl : List Nat} {C : String} {T : u_T} (j : Nat) (hk0 : X.1[k]? = some (4, ci, fl)) (hc0 : X.2.1[ci]? = some (C, T, N)) (hin : ∀ w ∈ u_ws C T N, w ∈ Ts) (hj : j < N) (hlk : Cond.fieldLink own index (T j).1 (T j).2.1 (T j).2.2.1 ∈ Ts) (hf : fl[j]? = some 0) (d : decode cc pc = .ok (.getfield index, 3)) (kk : tc_V X G p l e R s m args below meth c cc nL Ts own ret hh Q cells slots u (pc + 3) lv (.int (u k j) :: rest)) : tc_V X G p l e R s m args below meth c cc nL Ts own ret hh Q cells slots u pc lv (.ref (tc_ad G k) :: rest) :=
  fun hx hb hm ho ht hr hk hq0 ls H locs hl hw => va_get (D := G.1) (cl := X.2.1) (ws := tc_w X G u) hx hb ht hin ho hw.2.1 hw.1 k (tc_w_at hk0) hc0 j hj (ht _ hlk) (fun _ h => h) (tc_fs hf) d (kk hx hb hm ho ht hr hk hq0 ls H locs hl hw)
theorem tv_getR {k ci index N : Nat} {fl : List Nat} {C : String} {T : u_T} (j : Nat) {q : Nat} (hk0 : X.1[k]? = some (4, ci, fl)) (hc0 : X.2.1[ci]? = some (C, T, N)) (hin : ∀ w ∈ u_ws C T N, w ∈ Ts) (hj : j < N) (hlk : Cond.fieldLink own index (T j).1 (T j).2.1 (T j).2.2.1 ∈ Ts) (hf : fl[j]? = some (q + 1)) (d : decode cc pc = .ok (.getfield index, 3)) (kk : tc_V X G p l e R s m args below meth c cc nL Ts own ret hh Q cells slots u (pc + 3) lv (.ref (tc_ad G q) :: rest)) : tc_V X G p l e R s m args below meth c cc nL Ts own ret hh Q cells slots u pc lv (.ref (tc_ad G k) :: rest) :=
  fun hx hb hm ho ht hr hk hq0 ls H locs hl hw => va_get (D := G.1) (cl := X.2.1) (ws := tc_w X G u) hx hb ht hin ho hw.2.1 hw.1 k (tc_w_at hk0) hc0 j hj (ht _ hlk) (fun _ h => h) (tc_fs hf) d (kk hx hb hm ho ht hr hk hq0 ls H locs hl hw)
theorem tv_putI {k ci index N : Nat} {fl : List Nat} {C : String} {T : u_T} (j : Nat) (ty0 : Nat → FieldType) {ty : FieldType} {x : Int32} (hk0 : X.1[k]? = some (4, ci, fl)) (hc0 : X.2.1[ci]? = some (C, T, N)) (hin : ∀ w ∈ u_ws C T N, w ∈ Ts) (hj : j < N) (hlk : Cond.fieldLink own index (T j).1 (T j).2.1 (T j).2.2.1 ∈ Ts) (hty : ∀ k, k < N → parseFieldDescriptor (T k).2.2.1 = some (ty0 k)) (hnm : ∀ a, a < N → ∀ b, b < N → a ≠ b → (T a).2.1 ≠ (T b).2.1) (hfin : (T j).2.2.2 = false) (hd : parseFieldDescriptor (T j).2.2.1 = some ty) (hn : narrow ty (.int x) = .int x) (hfit : fits ty (.int x) = true) (hf : fl[j]? = some 0) (d : decode cc pc = .ok (.putfield index, 3)) (kk : tc_V X G p l e R s m args below meth c cc nL Ts own ret hh Q cells slots (tc_up u k j x) (pc + 3) lv rest) : tc_V X G p l e R s m args below meth c cc nL Ts own ret hh Q cells slots u pc lv (.int x :: .ref (tc_ad G k) :: rest) := by
  intro hx hb hm ho ht hr hk hq0 ls H locs hl hw  
  refine va_put (D := G.1) (cl := X.2.1) (ws := tc_w X G u) hx hb ht hin ty0 hty hnm ho hw.2.1 hw.1 hw.2.2.1 hw.2.2.2.1 k (tc_w_at hk0) hc0 j hj (ht _ hlk) (fun _ h => h) hfin hd hn hfit (by rw [List.length_mapIdx]; exact (List.getElem?_eq_some_iff.mp hf).1) d (fun H1 locs1 hP hD hS => ?_)
  have e : (tc_w X G u).set k (tc_ad G k, .inr (ci, (fl.mapIdx fun j f => if f = 0 then Value.int (u k j) else .ref (tc_ad G (f - 1))).set j (.int x))) = tc_w X G (tc_up u k j x) := by
    rw [tc_fs_set hf]
    exact tc_w_set (v := tc_up u k j x) hk0 (fun i hi => tc_up_ne hi)
  exact kk hx hb hm ho ht hr hk hq0 ls H1 locs1 hl ⟨by rw [← e]; exact hP, hw.2.1, by rw [← e]; exact hD, hS, hw.2.2.2.2⟩
theorem tv_iald {k n j : Nat} {li : List Nat} {i : Int32} (hk0 : X.1[k]? = some (0, n, li)) (hi : tc_ix i n j) (d : decode cc pc = .ok (.iaload, 1)) (kk : tc_V X G p l e R s m args below meth c cc nL Ts own ret hh Q cells slots u (pc + 1) lv (.int (u k j) :: rest)) : tc_V X G p l e R s m args below meth c cc nL Ts own ret hh Q cells slots u pc lv (.int i :: .ref (tc_ad G k) :: rest) := by
  intro hx hb hm ho ht hr hk hq0 ls H locs hl hw  
  refine va_iald (D := G.1) (cl := X.2.1) (ws := tc_w X G u) hx hb hw.2.1 hw.1 k 0 (tc_w_at hk0) rfl hi.in d ?_
  rw [hi.2.1]
  exact kk hx hb hm ho ht hr hk hq0 ls H locs hl hw
theorem tv_zald {k n j : Nat} {li : List Nat} {i : Int32} (hk0 : X.1[k]? = some (1, n, li)) (hi : tc_ix i n j) (d : decode cc pc = .ok (.baload, 1)) (kk : tc_V X G p l e R s m args below meth c cc nL Ts own ret hh Q cells slots u (pc + 1) lv (.int (u k j) :: rest)) : tc_V X G p l e R s m args below meth c cc nL Ts own ret hh Q cells slots u pc lv (.int i :: .ref (tc_ad G k) :: rest) := by
  intro hx hb hm ho ht hr hk hq0 ls H locs hl hw  
  refine va_zald (D := G.1) (cl := X.2.1) (ws := tc_w X G u) hx hb hw.2.1 hw.1 k 1 (tc_w_at hk0) rfl hi.in d ?_
  rw [hi.2.1]
  exact kk hx hb hm ho ht hr hk hq0 ls H locs hl hw
theorem tv_lald {k n j : Nat} {li : List Nat} {i : Int32} (hk0 : X.1[k]? = some (2, n, li)) (hi : tc_ix i n j) (d : decode cc pc = .ok (.laload, 1)) (kk : tc_V X G p l e R s m args below meth c cc nL Ts own ret hh Q cells slots u (pc + 1) lv (.long (u k j).toInt64 :: rest)) : tc_V X G p l e R s m args below meth c cc nL Ts own ret hh Q cells slots u pc lv (.int i :: .ref (tc_ad G k) :: rest) := by
  intro hx hb hm ho ht hr hk hq0 ls H locs hl hw  
  refine va_lald (D := G.1) (cl := X.2.1) (ws := tc_w X G u) hx hb hw.2.1 hw.1 k 2 (tc_w_at hk0) rfl hi.in d ?_
  rw [hi.2.1]
  exact kk hx hb hm ho ht hr hk hq0 ls H locs hl hw
theorem tv_aald {k n j : Nat} {i : Int32} {b : Nat} (hk0 : X.1[k]? = some (3, n, [b])) (hi : tc_ix i n j) (d : decode cc pc = .ok (.aaload, 1)) (kk : tc_V X G p l e R s m args below meth c cc nL Ts own ret hh Q cells slots u (pc + 1) lv (.ref (tc_ad G (b + j)) :: rest)) : tc_V X G p l e R s m args below meth c cc nL Ts own ret hh Q cells slots u pc lv (.int i :: .ref (tc_ad G k) :: rest) := by
  intro hx hb hm ho ht hr hk hq0 ls H locs hl hw  
  have hcell := hw.1 k _ (tc_w_at hk0)
  exact W.aald (v := .ref (tc_ad G (b + j))) (ty := .array .int) hx hb hcell ((hw.2.1.2 3 _ rfl).1 n (fun j => va_rf (some (tc_ad G (b + j))))) rfl (fun q => by cases q) (by show ¬ (i < 0 ∨ (arrV _ _ _).slots.size ≤ _); rw [arrV_size]; exact hi.in) (by show (arrV _ _ _).slots[_]? = _; rw [hi.2.1, arrV_read _ _ hi.2.2]; rfl) rfl rfl d (kk hx hb hm ho ht hr hk hq0 ls H locs hl hw)
theorem tv_iast {k n j : Nat} {li : List Nat} {i : Int32} {x : Int32} (hk0 : X.1[k]? = some (0, n, li)) (hi : tc_ix i n j) (d : decode cc pc = .ok (.iastore, 1)) (kk : tc_V X G p l e R s m args below meth c cc nL Ts own ret hh Q cells slots (tc_up u k j x) (pc + 1) lv rest) : tc_V X G p l e R s m args below meth c cc nL Ts own ret hh Q cells slots u pc lv (.int x :: .int i :: .ref (tc_ad G k) :: rest) := by
  intro hx hb hm ho ht hr hk hq0 ls H locs hl hw  
  refine va_iast (D := G.1) (cl := X.2.1) (ws := tc_w X G u) hx hb hw.2.1 hw.1 hw.2.2.1 hw.2.2.2.1 k 0 (tc_w_at hk0) rfl hi.in d (fun H1 locs1 hP hD hS => ?_)
  rw [hi.2.1] at hP hD
  have e : (tc_w X G u).set k (tc_ad G k, tc_e G (tc_up u k j x) k (0, n, li)) = tc_w X G (tc_up u k j x) := tc_w_set hk0 (fun i hi => tc_up_ne hi)
  have e1 : tc_e G (tc_up u k j x) k (0, n, li) = .inl (G.2.1.1, n, .inl (upd (u k) j x)) := by
    unfold tc_e
    simp only [tc_up_eq]
  rw [e1] at e
  exact kk hx hb hm ho ht hr hk hq0 ls H1 locs1 hl ⟨by rw [← e]; exact hP, hw.2.1, by rw [← e]; exact hD, hS, hw.2.2.2.2⟩
theorem tv_zast {k n j : Nat} {li : List Nat} {i : Int32} {x : Int32} (hk0 : X.1[k]? = some (1, n, li)) (hi : tc_ix i n j) (hz : vp_nar .boolean x = x) (d : decode cc pc = .ok (.bastore, 1)) (kk : tc_V X G p l e R s m args below meth c cc nL Ts own ret hh Q cells slots (tc_up u k j x) (pc + 1) lv rest) : tc_V X G p l e R s m args below meth c cc nL Ts own ret hh Q cells slots u pc lv (.int x :: .int i :: .ref (tc_ad G k) :: rest) := by
  intro hx hb hm ho ht hr hk hq0 ls H locs hl hw  
  refine va_zast (D := G.1) (cl := X.2.1) (ws := tc_w X G u) hx hb hw.2.1 hw.1 hw.2.2.1 hw.2.2.2.1 k 1 (tc_w_at hk0) rfl hi.in d (fun H1 locs1 hP hD hS => ?_)
  rw [hi.2.1] at hP hD
  rw [hz] at hP hD
  have e : (tc_w X G u).set k (tc_ad G k, tc_e G (tc_up u k j x) k (1, n, li)) = tc_w X G (tc_up u k j x) := tc_w_set hk0 (fun i hi => tc_up_ne hi)
  have e1 : tc_e G (tc_up u k j x) k (1, n, li) = .inl (G.2.1.2.1, n, .inl (upd (u k) j x)) := by
    unfold tc_e
    simp only [tc_up_eq]
  rw [e1] at e
  exact kk hx hb hm ho ht hr hk hq0 ls H1 locs1 hl ⟨by rw [← e]; exact hP, hw.2.1, by rw [← e]; exact hD, hS, hw.2.2.2.2⟩
theorem tv_last {k n j : Nat} {li : List Nat} {i : Int32} {x : Int32} (hk0 : X.1[k]? = some (2, n, li)) (hi : tc_ix i n j) (d : decode cc pc = .ok (.lastore, 1)) (kk : tc_V X G p l e R s m args below meth c cc nL Ts own ret hh Q cells slots (tc_up u k j x) (pc + 1) lv rest) : tc_V X G p l e R s m args below meth c cc nL Ts own ret hh Q cells slots u pc lv (.long x.toInt64 :: .int i :: .ref (tc_ad G k) :: rest) := by
  intro hx hb hm ho ht hr hk hq0 ls H locs hl hw  
  refine va_last (D := G.1) (cl := X.2.1) (ws := tc_w X G u) hx hb hw.2.1 hw.1 hw.2.2.1 hw.2.2.2.1 k 2 (tc_w_at hk0) rfl hi.in d (fun H1 locs1 hP hD hS => ?_)
  rw [hi.2.1] at hP hD
  have e : (tc_w X G u).set k (tc_ad G k, tc_e G (tc_up u k j x) k (2, n, li)) = tc_w X G (tc_up u k j x) := tc_w_set hk0 (fun i hi => tc_up_ne hi)
  have e1 : tc_e G (tc_up u k j x) k (2, n, li) = .inl (G.2.1.2.2.1, n, .inr (.inl (vp_updL (fun j => (u k j).toInt64) j x.toInt64))) := by
    unfold tc_e
    simp only [tc_up_eq]; rw [show (fun q => (upd (u k) j x q).toInt64) = vp_updL (fun q => (u k q).toInt64) j x.toInt64 from by funext q; unfold upd vp_updL; split <;> rfl]
  rw [e1] at e
  exact kk hx hb hm ho ht hr hk hq0 ls H1 locs1 hl ⟨by rw [← e]; exact hP, hw.2.1, by rw [← e]; exact hD, hS, hw.2.2.2.2⟩
theorem tv_alen {k n : Nat} {li : List Nat} {v : Int32} (hk0 : X.1[k]? = some (0, n, li)) (hv : Int32.ofNat n = v) (d : decode cc pc = .ok (.arraylength, 1)) (kk : tc_V X G p l e R s m args below meth c cc nL Ts own ret hh Q cells slots u (pc + 1) lv (.int v :: rest)) : tc_V X G p l e R s m args below meth c cc nL Ts own ret hh Q cells slots u pc lv (.ref (tc_ad G k) :: rest) :=
  fun hx hb hm ho ht hr hk hq0 ls H locs hl hw => va_alen (D := G.1) (cl := X.2.1) (ws := tc_w X G u) hx hb hw.2.1 hw.1 k 0 (tc_w_at hk0) (ty := .int) rfl hv d (kk hx hb hm ho ht hr hk hq0 ls H locs hl hw)
theorem tv_gets {C nm : String} {ta : List Int32} {index : Nat} (hq : (C, nm, ta) ∈ X.2.2.1) (hlk : Cond.fieldLink own index C nm "[I" ∈ Ts) (d : decode cc pc = .ok (.getstatic index, 3)) (kk : ∀ t : Nat, va_T .int t ta.length (fun j => .int (ta.getD j 0)) (tc_A X G s.heap.size) s s.heap → tc_V X G p l e R s m args below meth c cc nL Ts own ret hh Q cells slots u (pc + 3) lv (.ref t :: rest)) : tc_V X G p l e R s m args below meth c cc nL Ts own ret hh Q cells slots u pc lv rest := by
  intro hx hb hm ho ht hr hk hq0 ls H locs hl hw  
  obtain ⟨t, h1, h2⟩ := hw.2.2.2.2.2.1.1 _ hq
  exact va_gets hx hb h1 hw.2.2.2.1 ho (ht _ hlk) (fun _ h => h) d (kk t h2 hx hb hm ho ht hr hk hq0 ls H locs hl hw)
theorem tv_tald {t : Nat} {ta : List Int32} {i x : Int32} {j : Nat} (hT : va_T .int t ta.length (fun j => .int (ta.getD j 0)) (tc_A X G s.heap.size) s s.heap) (hi : tc_ix i ta.length j) (hv : ta.getD j 0 = x) (d : decode cc pc = .ok (.iaload, 1)) (kk : tc_V X G p l e R s m args below meth c cc nL Ts own ret hh Q cells slots u (pc + 1) lv (.int x :: rest)) : tc_V X G p l e R s m args below meth c cc nL Ts own ret hh Q cells slots u pc lv (.int i :: .ref t :: rest) :=
  fun hx hb hm ho ht hr hk hq0 ls H locs hl hw => va_ti hx hb hT hw.2.2.2.1 hi.in (by rw [hi.2.1, hv]) d (kk hx hb hm ho ht hr hk hq0 ls H locs hl hw)
/-- one row of numbers anew -/
def tc_rw (u : tc_S) (k : Nat) (f : Nat → Int32) : tc_S := fun k' => if k' = k then f else u k'
theorem tc_rw_ne {u : tc_S} {k j : Nat} {f : Nat → Int32} (h : j ≠ k) : tc_rw u k f j = u j := by unfold tc_rw; rw [if_neg h]
theorem tc_rw_eq {u : tc_S} {k : Nat} {f : Nat → Int32} : tc_rw u k f k = f := by unfold tc_rw; rw [if_pos rfl]
theorem tv_copy {k0 k1 n0 n1 index N : Nat} {li0 li1 : List Nat} {n : Int32} (hk0 : X.1[k0]? = some (0, n0, li0)) (hk1 : X.1[k1]? = some (0, n1, li1)) (hn : tc_ix n (N + 1) N) (hN0 : N ≤ n0) (hN1 : N ≤ n1) (hlk : Cond.methodLink own index arraycopyName ∈ Ts) (hnat : Cond.native arraycopyName ∈ Ts) (hsta : Cond.static arraycopyName ∈ Ts) (hini : Cond.initialized "java/lang/System" ∈ Ts) (hfr : 1 ≤ R.frames) (hlo : (rest.map fun v => v.category).sum + (nativeFrameWords "java/lang/System" "arraycopy" 5 + 11) ≤ R.locals) (d : decode cc pc = .ok (.invokestatic index, 3)) (kk : tc_V X G p l e R s m args below meth c cc nL Ts own ret hh Q cells slots (tc_rw u k1 (va_cpy (u k0) (u k1) 0 0 N)) (pc + 3) lv rest) : tc_V X G p l e R s m args below meth c cc nL Ts own ret hh Q cells slots u pc lv (.int n :: .int 0 :: .ref (tc_ad G k1) :: .int 0 :: .ref (tc_ad G k0) :: rest) := by
  intro hx hb hm ho ht hr hk hq0 ls H locs hl hw  
  have c0 : (0 : Int32).toNatClampNeg = 0 := by decide
  refine va_copyi (D := G.1) (cl := X.2.1) (ws := tc_w X G u) (ty := .int) hx hb (hm.trans hl.1.symm) ho (ht _ hlk) (ht _ hnat) (ht _ hsta) (ht _ hini) hw.2.1 hw.1 hw.2.2.1 hw.2.2.2.1 k0 k1 0 0 (tc_w_at hk0) (tc_w_at hk1) rfl rfl rfl (by decide) (by decide) hn.1 (by rw [c0, hn.2.1]; show 0 + N ≤ n0; omega) (by rw [c0, hn.2.1]; show 0 + N ≤ n1; omega) (fun i _ => rfl) hfr hlo d (fun H1 locs1 hP hD hS => ?_)
  rw [c0, hn.2.1] at hP hD
  have e : (tc_w X G u).set k1 (tc_ad G k1, tc_e G (tc_rw u k1 (va_cpy (u k0) (u k1) 0 0 N)) k1 (0, n1, li1)) = tc_w X G (tc_rw u k1 (va_cpy (u k0) (u k1) 0 0 N)) := tc_w_set hk1 (fun i hi => tc_rw_ne hi)
  have e1 : tc_e G (tc_rw u k1 (va_cpy (u k0) (u k1) 0 0 N)) k1 (0, n1, li1) = .inl (G.2.1.1, n1, .inl (va_cpy (u k0) (u k1) 0 0 N)) := by
    unfold tc_e
    simp only [tc_rw_eq]
  rw [e1] at e
  exact kk hx hb hm ho ht hr hk hq0 ls H1 locs1 hl ⟨by rw [← e]; exact hP, hw.2.1, by rw [← e]; exact hD, hS, hw.2.2.2.2⟩
theorem tv_iret {K : Outcome → tc_S → Prop} {mc ms : Nat} {x : Int32} (d : decode cc pc = .ok (.ireturn, 1)) (hret : ret = some .int) (hc : cells ≤ mc) (hs : slots ≤ ms) (hK : K (.returned (some (.int x))) u) : tc_V X G p l e R s m args below meth c cc nL Ts own ret hh (MQ below (tc_Qc X G K s.heap.size) args s mc ms (tc_A X G s.heap.size)) cells slots u pc lv [.int x] :=
  fun hx hb hm ho ht hr hk hq0 ls H locs hl hw => W.widen hc hs (W.iret hx hb (hr.trans hret) (fun t h1 hW => ⟨⟨u, hK, by rw [h1]; exact hw.1, va_K.moved hW.alike hw.2.1⟩, hw.2.2.2.1.F h1⟩) hw.2.2.2.1.2.2 d (hlocks := hk))
theorem tv_zret {K : Outcome → tc_S → Prop} {mc ms : Nat} {x : Int32} (d : decode cc pc = .ok (.ireturn, 1)) (hret : ret = some .boolean) (hc : cells ≤ mc) (hs : slots ≤ ms) (hz : narrow .boolean (.int x) = .int x) (hK : K (.returned (some (.int x))) u) : tc_V X G p l e R s m args below meth c cc nL Ts own ret hh (MQ below (tc_Qc X G K s.heap.size) args s mc ms (tc_A X G s.heap.size)) cells slots u pc lv [.int x] :=
  fun hx hb hm ho ht hr hk hq0 ls H locs hl hw => W.widen hc hs (W.zret hx hb (hr.trans hret) hz (fun t h1 hW => ⟨⟨u, hK, by rw [h1]; exact hw.1, va_K.moved hW.alike hw.2.1⟩, hw.2.2.2.1.F h1⟩) hw.2.2.2.1.2.2 d (hlocks := hk))
theorem tv_vret {K : Outcome → tc_S → Prop} {mc ms : Nat} (d : decode cc pc = .ok (.return_, 1)) (hret : ret = none) (hc : cells ≤ mc) (hs : slots ≤ ms) (hK : K (.returned none) u) : tc_V X G p l e R s m args below meth c cc nL Ts own ret hh (MQ below (tc_Qc X G K s.heap.size) args s mc ms (tc_A X G s.heap.size)) cells slots u pc lv [] :=
  fun hx hb hm ho ht hr hk hq0 ls H locs hl hw => W.widen hc hs (W.vret hx hb (hr.trans hret) (fun t h1 hW => ⟨⟨u, hK, by rw [h1]; exact hw.1, va_K.moved hW.alike hw.2.1⟩, hw.2.2.2.1.F h1⟩) hw.2.2.2.1.2.2 d (hlocks := hk))
theorem tv_aret {K : Outcome → tc_S → Prop} {mc ms : Nat} {a : Nat} {rt : FieldType} (d : decode cc pc = .ok (.areturn, 1)) (hret : ret = some rt) (hrt : (∃ n, rt = .object n) ∨ ∃ t, rt = .array t) (hc : cells ≤ mc) (hs : slots ≤ ms) (hK : K (.returned (some (.ref a))) u) : tc_V X G p l e R s m args below meth c cc nL Ts own ret hh (MQ below (tc_Qc X G K s.heap.size) args s mc ms (tc_A X G s.heap.size)) cells slots u pc lv [.ref a] :=
  fun hx hb hm ho ht hr hk hq0 ls H locs hl hw => W.widen hc hs (W.aret hx hb (hr.trans hret) hrt (Or.inr ⟨a, rfl⟩) (fun t h1 hW => ⟨⟨u, hK, by rw [h1]; exact hw.1, va_K.moved hW.alike hw.2.1⟩, hw.2.2.2.1.F h1⟩) hw.2.2.2.1.2.2 d (hlocks := hk))
theorem tc_A.up {sz sz' : Nat} (h : sz ≤ sz') (q : Nat) (hq : tc_A X G sz' q) : tc_A X G sz q := by
  rcases hq with hq | hq
  · exact Or.inl hq
  · exact Or.inr (Nat.le_trans h hq)
theorem tc_pre {H : Heap} {locs : List Loc} {av : List Value} (hw : tc_W X G (tc_A X G s.heap.size) s H locs u) (U : State) (hU : U.heap = H) (hW : s.WarmedH U.vm) : tc_Pc X G av u H.size av.toArray U := by
  obtain ⟨h1, h2, h3, h4, h5, h6, h7⟩ := hw
  refine ⟨rfl, by rw [hU], by rw [hU]; exact h1, va_K.moved hW.alike h2, h3.weaken (fun _ _ _ _ => trivial), ?_, h7.warm hW⟩
  rw [hU]
  exact ((h6.kept (H1 := H) (fun a _ hA => h4.2.1 a (by assumption) hA)).narrow (fun q hq => tc_A.up h4.1 q hq)).moved hW.alike
theorem tc_cont {H : Heap} {locs : List Loc} {ls : Array Slot} {st0 : List Value} {mc ms : Nat} {K : Outcome → tc_S → Prop} {a : Array Value} (hw : tc_W X G (tc_A X G s.heap.size) s H locs u)
    (hr : va_Run p l e R s m args below meth c H locs cells slots mc ms (F0 m pc ls st0) rest (tc_Qc X G K H.size a) (tc_A X G H.size))
    (kk : ∀ (v : Option Value) (u' : tc_S) (H1 : Heap) (locs1 : List Loc), K (.returned v) u' → tc_W X G (tc_A X G s.heap.size) s H1 locs1 u' → W p l e R s m args below meth c H1 locs1 (cells + mc) (slots + ms) Q (F0 m (pc + 3) ls (v.toList ++ rest))) : W p l e R s m args below meth c H locs cells slots Q (F0 m pc ls st0) := by
  obtain ⟨h1, h2, h3, h4, h5, h6, h7⟩ := hw
  intro T hT XT
  obtain ⟨v, st₀, t, T', L, h0, X', hL, e1, e2, ⟨⟨u', hK, hP', hK'⟩, hz, hkp⟩, st⟩ := hr T hT XT
  rw [h0] at hz hkp
  have hal : s.vm.Alike t.vm := by rw [← e2]; exact X'.warmed.alike
  obtain ⟨t2, a1, b1⟩ := kk v u' T'.heap (locs ++ L) hK
    ⟨by rw [e1]; exact hP', va_K.moved hal.symm hK', tc_D_of h3 (fun k hk => Or.inl ⟨k, hk, rfl⟩), ⟨Nat.le_trans h4.1 (by rw [e1]; exact hz), fun q hq hA => by
      rw [e1, hkp q (Nat.lt_of_lt_of_le hq h4.1) (fun z => hA (tc_A.up h4.1 q z))]; exact h4.2.1 q hq hA, fun q hq => by
      rcases List.mem_append.mp hq with h | h
      · exact h4.2.2 q h
      · exact tc_A.up h4.1 _ (hL q h)⟩, h5, h6, h7⟩ T' rfl X'
  exact ⟨t2, st t2 a1, b1⟩
theorem tc_recv {H : Heap} {locs : List Loc} {k ci N : Nat} {fl : List Nat} {C : String} {T : u_T} (hw : tc_W X G (tc_A X G s.heap.size) s H locs u) (hk0 : X.1[k]? = some (4, ci, fl)) (hc0 : X.2.1[ci]? = some (C, T, N)) : ∃ cell : Cell, H[tc_ad G k]? = some cell ∧ cell.vm.isStatics = false ∧ s.vm.findClass C = some cell.cls :=
  va_recv (D := G.1) (cl := X.2.1) (ws := tc_w X G u) (q := (C, T, N)) hw.2.1 hw.1 hc0 (tc_w_at hk0)
theorem tv_callV_g {b ci N index maxL mc ms n : Nat} {fl : List Nat} {C : String} {T : u_T} {y : MethodName} {ws : List Cond} {rm : Room} {bytes : ByteArray} {ret' : Option FieldType} (As : List Value) {K : Outcome → tc_S → Prop} (hk0 : X.1[b]? = some (4, ci, fl)) (hc0 : X.2.1[ci]? = some (C, T, N)) (hC : tc_C X G l y ws rm mc ms (.ref (tc_ad G b) :: As) u K) (cw : (∀ w ∈ Ts, w.before args s = true) → CallW R s args own C index y bytes maxL ret' ws rm mc ms n) (hn : As.length = n) (hW : (rest.map fun v => v.category).sum ≤ 8) (d : decode cc pc = .ok (.invokevirtual index, 3)) (hf : cells + mc ≤ R.cells ∧ slots + ms ≤ R.slots) (kk : ∀ (v : Option Value) (u' : tc_S), K (.returned v) u' → tc_V X G p l e R s m args below meth c cc nL Ts own ret hh Q (cells + mc) (slots + ms) u' (pc + 3) lv (v.toList ++ rest)) : tc_V X G p l e R s m args below meth c cc nL Ts own ret hh Q cells slots u pc lv (As.reverse ++ .ref (tc_ad G b) :: rest) := by
  intro hx hb hm ho ht hr hk hq0 ls H locs hl hw  
  exact tc_cont hw (va_runV (As := As) (rest := rest) ⟨hx, hb, hm, ho, ht⟩ (hC H.size) (cw ht) ⟨tc_blind, tc_recv hw hk0 hc0, tc_pre hw⟩ rfl hn hl.1 rfl (lv_room hW) d hf) (fun v u' H1 locs1 hK hw1 => kk v u' hK hx hb hm ho ht hr hk hq0 ls H1 locs1 hl hw1)
theorem tv_callVi {b ci N index maxL n : Nat} {fl : List Nat} {C : String} {T : u_T} {y : MethodName} {ws : List Cond} {rm : Room} {bytes : ByteArray} {ret' : Option FieldType} (As : List Value) {r : Int32} {u' : tc_S} (hk0 : X.1[b]? = some (4, ci, fl)) (hc0 : X.2.1[ci]? = some (C, T, N)) (hC : tc_C X G l y ws rm 0 0 (.ref (tc_ad G b) :: As) u (tc_Ki r u')) (cw : (∀ w ∈ Ts, w.before args s = true) → CallW R s args own C index y bytes maxL ret' ws rm 0 0 n) (hn : As.length = n) (hW : (rest.map fun v => v.category).sum ≤ 8) (d : decode cc pc = .ok (.invokevirtual index, 3)) (hf : cells + 0 ≤ R.cells ∧ slots + 0 ≤ R.slots) (kk : tc_V X G p l e R s m args below meth c cc nL Ts own ret hh Q cells slots u' (pc + 3) lv (.int r :: rest)) : tc_V X G p l e R s m args below meth c cc nL Ts own ret hh Q cells slots u pc lv (As.reverse ++ .ref (tc_ad G b) :: rest) :=
  tv_callV_g As hk0 hc0 hC cw hn hW d hf (fun v u2 hK => by obtain ⟨h1, h2⟩ := hK; cases h1; cases h2; exact kk)
theorem tv_callVv {b ci N index maxL n : Nat} {fl : List Nat} {C : String} {T : u_T} {y : MethodName} {ws : List Cond} {rm : Room} {bytes : ByteArray} {ret' : Option FieldType} (As : List Value) {u' : tc_S} (hk0 : X.1[b]? = some (4, ci, fl)) (hc0 : X.2.1[ci]? = some (C, T, N)) (hC : tc_C X G l y ws rm 0 0 (.ref (tc_ad G b) :: As) u (tc_Kv u')) (cw : (∀ w ∈ Ts, w.before args s = true) → CallW R s args own C index y bytes maxL ret' ws rm 0 0 n) (hn : As.length = n) (hW : (rest.map fun v => v.category).sum ≤ 8) (d : decode cc pc = .ok (.invokevirtual index, 3)) (hf : cells + 0 ≤ R.cells ∧ slots + 0 ≤ R.slots) (kk : tc_V X G p l e R s m args below meth c cc nL Ts own ret hh Q cells slots u' (pc + 3) lv (rest)) : tc_V X G p l e R s m args below meth c cc nL Ts own ret hh Q cells slots u pc lv (As.reverse ++ .ref (tc_ad G b) :: rest) :=
  tv_callV_g As hk0 hc0 hC cw hn hW d hf (fun v u2 hK => by obtain ⟨h1, h2⟩ := hK; cases h1; cases h2; exact kk)
theorem tv_callVr {b ci N index maxL n : Nat} {fl : List Nat} {C : String} {T : u_T} {y : MethodName} {ws : List Cond} {rm : Room} {bytes : ByteArray} {ret' : Option FieldType} (As : List Value) {r : Nat} {u' : tc_S} (hk0 : X.1[b]? = some (4, ci, fl)) (hc0 : X.2.1[ci]? = some (C, T, N)) (hC : tc_C X G l y ws rm 0 0 (.ref (tc_ad G b) :: As) u (tc_Kr r u')) (cw : (∀ w ∈ Ts, w.before args s = true) → CallW R s args own C index y bytes maxL ret' ws rm 0 0 n) (hn : As.length = n) (hW : (rest.map fun v => v.category).sum ≤ 8) (d : decode cc pc = .ok (.invokevirtual index, 3)) (hf : cells + 0 ≤ R.cells ∧ slots + 0 ≤ R.slots) (kk : tc_V X G p l e R s m args below meth c cc nL Ts own ret hh Q cells slots u' (pc + 3) lv (.ref r :: rest)) : tc_V X G p l e R s m args below meth c cc nL Ts own ret hh Q cells slots u pc lv (As.reverse ++ .ref (tc_ad G b) :: rest) :=
  tv_callV_g As hk0 hc0 hC cw hn hW d hf (fun v u2 hK => by obtain ⟨h1, h2⟩ := hK; cases h1; cases h2; exact kk)
theorem tv_callVN_g {b ci N index maxL mc ms n : Nat} {fl : List Nat} {C : String} {T : u_T} {y : MethodName} {ws : List Cond} {rm : Room} {bytes : ByteArray} {ret' : Option FieldType} (As : List Value) {host : String} {K : Outcome → tc_S → Prop} (hk0 : X.1[b]? = some (4, ci, fl)) (hc0 : X.2.1[ci]? = some (C, T, N)) (hC : tc_C X G l y ws rm mc ms (.ref (tc_ad G b) :: As) u K) (cw : (∀ w ∈ Ts, w.before args s = true) → tc_N X s → (va_CN R s args own index y host bytes maxL ret' ws rm mc ms n ∧ (Cond.instanceMethod y).before args s = true ∧ (Cond.selects C y y).before args s = true)) (hn : As.length = n) (hW : (rest.map fun v => v.category).sum ≤ 8) (d : decode cc pc = .ok (.invokevirtual index, 3)) (hf : cells + mc ≤ R.cells ∧ slots + ms ≤ R.slots) (kk : ∀ (v : Option Value) (u' : tc_S), K (.returned v) u' → tc_V X G p l e R s m args below meth c cc nL Ts own ret hh Q (cells + mc) (slots + ms) u' (pc + 3) lv (v.toList ++ rest)) : tc_V X G p l e R s m args below meth c cc nL Ts own ret hh Q cells slots u pc lv (As.reverse ++ .ref (tc_ad G b) :: rest) := by
  intro hx hb hm ho ht hr hk hq0 ls H locs hl hw  
  exact tc_cont hw (va_runVN (As := As) (rest := rest) ⟨hx, hb, hm, ho, ht⟩ (hC H.size) (cw ht hw.2.2.2.2.2.2) ⟨tc_blind, tc_recv hw hk0 hc0, tc_pre hw⟩ rfl hn hl.1 rfl (lv_room hW) d hf) (fun v u' H1 locs1 hK hw1 => kk v u' hK hx hb hm ho ht hr hk hq0 ls H1 locs1 hl hw1)
theorem tv_callVNi {b ci N index maxL n : Nat} {fl : List Nat} {C : String} {T : u_T} {y : MethodName} {ws : List Cond} {rm : Room} {bytes : ByteArray} {ret' : Option FieldType} (As : List Value) {host : String} {r : Int32} {u' : tc_S} (hk0 : X.1[b]? = some (4, ci, fl)) (hc0 : X.2.1[ci]? = some (C, T, N)) (hC : tc_C X G l y ws rm 0 0 (.ref (tc_ad G b) :: As) u (tc_Ki r u')) (cw : (∀ w ∈ Ts, w.before args s = true) → tc_N X s → (va_CN R s args own index y host bytes maxL ret' ws rm 0 0 n ∧ (Cond.instanceMethod y).before args s = true ∧ (Cond.selects C y y).before args s = true)) (hn : As.length = n) (hW : (rest.map fun v => v.category).sum ≤ 8) (d : decode cc pc = .ok (.invokevirtual index, 3)) (hf : cells + 0 ≤ R.cells ∧ slots + 0 ≤ R.slots) (kk : tc_V X G p l e R s m args below meth c cc nL Ts own ret hh Q cells slots u' (pc + 3) lv (.int r :: rest)) : tc_V X G p l e R s m args below meth c cc nL Ts own ret hh Q cells slots u pc lv (As.reverse ++ .ref (tc_ad G b) :: rest) :=
  tv_callVN_g As hk0 hc0 hC cw hn hW d hf (fun v u2 hK => by obtain ⟨h1, h2⟩ := hK; cases h1; cases h2; exact kk)
theorem tv_callVNv {b ci N index maxL n : Nat} {fl : List Nat} {C : String} {T : u_T} {y : MethodName} {ws : List Cond} {rm : Room} {bytes : ByteArray} {ret' : Option FieldType} (As : List Value) {host : String} {u' : tc_S} (hk0 : X.1[b]? = some (4, ci, fl)) (hc0 : X.2.1[ci]? = some (C, T, N)) (hC : tc_C X G l y ws rm 0 0 (.ref (tc_ad G b) :: As) u (tc_Kv u')) (cw : (∀ w ∈ Ts, w.before args s = true) → tc_N X s → (va_CN R s args own index y host bytes maxL ret' ws rm 0 0 n ∧ (Cond.instanceMethod y).before args s = true ∧ (Cond.selects C y y).before args s = true)) (hn : As.length = n) (hW : (rest.map fun v => v.category).sum ≤ 8) (d : decode cc pc = .ok (.invokevirtual index, 3)) (hf : cells + 0 ≤ R.cells ∧ slots + 0 ≤ R.slots) (kk : tc_V X G p l e R s m args below meth c cc nL Ts own ret hh Q cells slots u' (pc + 3) lv (rest)) : tc_V X G p l e R s m args below meth c cc nL Ts own ret hh Q cells slots u pc lv (As.reverse ++ .ref (tc_ad G b) :: rest) :=
  tv_callVN_g As hk0 hc0 hC cw hn hW d hf (fun v u2 hK => by obtain ⟨h1, h2⟩ := hK; cases h1; cases h2; exact kk)
theorem tv_callVNr {b ci N index maxL n : Nat} {fl : List Nat} {C : String} {T : u_T} {y : MethodName} {ws : List Cond} {rm : Room} {bytes : ByteArray} {ret' : Option FieldType} (As : List Value) {host : String} {r : Nat} {u' : tc_S} (hk0 : X.1[b]? = some (4, ci, fl)) (hc0 : X.2.1[ci]? = some (C, T, N)) (hC : tc_C X G l y ws rm 0 0 (.ref (tc_ad G b) :: As) u (tc_Kr r u')) (cw : (∀ w ∈ Ts, w.before args s = true) → tc_N X s → (va_CN R s args own index y host bytes maxL ret' ws rm 0 0 n ∧ (Cond.instanceMethod y).before args s = true ∧ (Cond.selects C y y).before args s = true)) (hn : As.length = n) (hW : (rest.map fun v => v.category).sum ≤ 8) (d : decode cc pc = .ok (.invokevirtual index, 3)) (hf : cells + 0 ≤ R.cells ∧ slots + 0 ≤ R.slots) (kk : tc_V X G p l e R s m args below meth c cc nL Ts own ret hh Q cells slots u' (pc + 3) lv (.ref r :: rest)) : tc_V X G p l e R s m args below meth c cc nL Ts own ret hh Q cells slots u pc lv (As.reverse ++ .ref (tc_ad G b) :: rest) :=
  tv_callVN_g As hk0 hc0 hC cw hn hW d hf (fun v u2 hK => by obtain ⟨h1, h2⟩ := hK; cases h1; cases h2; exact kk)
theorem tv_callS_g {index maxL mc ms n : Nat} {y : MethodName} {ws : List Cond} {rm : Room} {bytes : ByteArray} {ret' : Option FieldType} (As : List Value) {K : Outcome → tc_S → Prop} (hC : tc_C X G l y ws rm mc ms (As) u K) (cw : (∀ w ∈ Ts, w.before args s = true) → (CallB R s args own index y bytes maxL ret' ws rm mc ms n ∧ (Cond.static y).before args s = true)) (hn : As.length = n) (hW : (rest.map fun v => v.category).sum ≤ 8) (d : decode cc pc = .ok (.invokestatic index, 3)) (hf : cells + mc ≤ R.cells ∧ slots + ms ≤ R.slots) (kk : ∀ (v : Option Value) (u' : tc_S), K (.returned v) u' → tc_V X G p l e R s m args below meth c cc nL Ts own ret hh Q (cells + mc) (slots + ms) u' (pc + 3) lv (v.toList ++ rest)) : tc_V X G p l e R s m args below meth c cc nL Ts own ret hh Q cells slots u pc lv (As.reverse ++ rest) := by
  intro hx hb hm ho ht hr hk hq0 ls H locs hl hw  
  exact tc_cont hw (va_runS (As := As) (rest := rest) ⟨hx, hb, hm, ho, ht⟩ (hC H.size) (cw ht) ⟨tc_blind, tc_pre hw⟩ rfl hn hl.1 rfl (lv_room hW) d hf) (fun v u' H1 locs1 hK hw1 => kk v u' hK hx hb hm ho ht hr hk hq0 ls H1 locs1 hl hw1)
theorem tv_callSi {index maxL n : Nat} {y : MethodName} {ws : List Cond} {rm : Room} {bytes : ByteArray} {ret' : Option FieldType} (As : List Value) {r : Int32} {u' : tc_S} (hC : tc_C X G l y ws rm 0 0 (As) u (tc_Ki r u')) (cw : (∀ w ∈ Ts, w.before args s = true) → (CallB R s args own index y bytes maxL ret' ws rm 0 0 n ∧ (Cond.static y).before args s = true)) (hn : As.length = n) (hW : (rest.map fun v => v.category).sum ≤ 8) (d : decode cc pc = .ok (.invokestatic index, 3)) (hf : cells + 0 ≤ R.cells ∧ slots + 0 ≤ R.slots) (kk : tc_V X G p l e R s m args below meth c cc nL Ts own ret hh Q cells slots u' (pc + 3) lv (.int r :: rest)) : tc_V X G p l e R s m args below meth c cc nL Ts own ret hh Q cells slots u pc lv (As.reverse ++ rest) :=
  tv_callS_g As hC cw hn hW d hf (fun v u2 hK => by obtain ⟨h1, h2⟩ := hK; cases h1; cases h2; exact kk)
theorem tv_callSv {index maxL n : Nat} {y : MethodName} {ws : List Cond} {rm : Room} {bytes : ByteArray} {ret' : Option FieldType} (As : List Value) {u' : tc_S} (hC : tc_C X G l y ws rm 0 0 (As) u (tc_Kv u')) (cw : (∀ w ∈ Ts, w.before args s = true) → (CallB R s args own index y bytes maxL ret' ws rm 0 0 n ∧ (Cond.static y).before args s = true)) (hn : As.length = n) (hW : (rest.map fun v => v.category).sum ≤ 8) (d : decode cc pc = .ok (.invokestatic index, 3)) (hf : cells + 0 ≤ R.cells ∧ slots + 0 ≤ R.slots) (kk : tc_V X G p l e R s m args below meth c cc nL Ts own ret hh Q cells slots u' (pc + 3) lv (rest)) : tc_V X G p l e R s m args below meth c cc nL Ts own ret hh Q cells slots u pc lv (As.reverse ++ rest) :=
  tv_callS_g As hC cw hn hW d hf (fun v u2 hK => by obtain ⟨h1, h2⟩ := hK; cases h1; cases h2; exact kk)
theorem tv_callSr {index maxL n : Nat} {y : MethodName} {ws : List Cond} {rm : Room} {bytes : ByteArray} {ret' : Option FieldType} (As : List Value) {r : Nat} {u' : tc_S} (hC : tc_C X G l y ws rm 0 0 (As) u (tc_Kr r u')) (cw : (∀ w ∈ Ts, w.before args s = true) → (CallB R s args own index y bytes maxL ret' ws rm 0 0 n ∧ (Cond.static y).before args s = true)) (hn : As.length = n) (hW : (rest.map fun v => v.category).sum ≤ 8) (d : decode cc pc = .ok (.invokestatic index, 3)) (hf : cells + 0 ≤ R.cells ∧ slots + 0 ≤ R.slots) (kk : tc_V X G p l e R s m args below meth c cc nL Ts own ret hh Q cells slots u' (pc + 3) lv (.ref r :: rest)) : tc_V X G p l e R s m args below meth c cc nL Ts own ret hh Q cells slots u pc lv (As.reverse ++ rest) :=
  tv_callS_g As hC cw hn hW d hf (fun v u2 hK => by obtain ⟨h1, h2⟩ := hK; cases h1; cases h2; exact kk)
theorem tv_callSN_g {index maxL mc ms n : Nat} {y : MethodName} {ws : List Cond} {rm : Room} {bytes : ByteArray} {ret' : Option FieldType} (As : List Value) {host : String} {K : Outcome → tc_S → Prop} (hC : tc_C X G l y ws rm mc ms (As) u K) (cw : (∀ w ∈ Ts, w.before args s = true) → tc_N X s → (va_CN R s args own index y host bytes maxL ret' ws rm mc ms n ∧ (Cond.static y).before args s = true ∧ True)) (hn : As.length = n) (hW : (rest.map fun v => v.category).sum ≤ 8) (d : decode cc pc = .ok (.invokestatic index, 3)) (hf : cells + mc ≤ R.cells ∧ slots + ms ≤ R.slots) (kk : ∀ (v : Option Value) (u' : tc_S), K (.returned v) u' → tc_V X G p l e R s m args below meth c cc nL Ts own ret hh Q (cells + mc) (slots + ms) u' (pc + 3) lv (v.toList ++ rest)) : tc_V X G p l e R s m args below meth c cc nL Ts own ret hh Q cells slots u pc lv (As.reverse ++ rest) := by
  intro hx hb hm ho ht hr hk hq0 ls H locs hl hw  
  exact tc_cont hw (va_runSN (As := As) (rest := rest) ⟨hx, hb, hm, ho, ht⟩ (hC H.size) (cw ht hw.2.2.2.2.2.2) ⟨tc_blind, tc_pre hw⟩ rfl hn hl.1 rfl (lv_room hW) d hf) (fun v u' H1 locs1 hK hw1 => kk v u' hK hx hb hm ho ht hr hk hq0 ls H1 locs1 hl hw1)
theorem tv_callSNi {index maxL n : Nat} {y : MethodName} {ws : List Cond} {rm : Room} {bytes : ByteArray} {ret' : Option FieldType} (As : List Value) {host : String} {r : Int32} {u' : tc_S} (hC : tc_C X G l y ws rm 0 0 (As) u (tc_Ki r u')) (cw : (∀ w ∈ Ts, w.before args s = true) → tc_N X s → (va_CN R s args own index y host bytes maxL ret' ws rm 0 0 n ∧ (Cond.static y).before args s = true ∧ True)) (hn : As.length = n) (hW : (rest.map fun v => v.category).sum ≤ 8) (d : decode cc pc = .ok (.invokestatic index, 3)) (hf : cells + 0 ≤ R.cells ∧ slots + 0 ≤ R.slots) (kk : tc_V X G p l e R s m args below meth c cc nL Ts own ret hh Q cells slots u' (pc + 3) lv (.int r :: rest)) : tc_V X G p l e R s m args below meth c cc nL Ts own ret hh Q cells slots u pc lv (As.reverse ++ rest) :=
  tv_callSN_g As hC cw hn hW d hf (fun v u2 hK => by obtain ⟨h1, h2⟩ := hK; cases h1; cases h2; exact kk)
theorem tv_callSNv {index maxL n : Nat} {y : MethodName} {ws : List Cond} {rm : Room} {bytes : ByteArray} {ret' : Option FieldType} (As : List Value) {host : String} {u' : tc_S} (hC : tc_C X G l y ws rm 0 0 (As) u (tc_Kv u')) (cw : (∀ w ∈ Ts, w.before args s = true) → tc_N X s → (va_CN R s args own index y host bytes maxL ret' ws rm 0 0 n ∧ (Cond.static y).before args s = true ∧ True)) (hn : As.length = n) (hW : (rest.map fun v => v.category).sum ≤ 8) (d : decode cc pc = .ok (.invokestatic index, 3)) (hf : cells + 0 ≤ R.cells ∧ slots + 0 ≤ R.slots) (kk : tc_V X G p l e R s m args below meth c cc nL Ts own ret hh Q cells slots u' (pc + 3) lv (rest)) : tc_V X G p l e R s m args below meth c cc nL Ts own ret hh Q cells slots u pc lv (As.reverse ++ rest) :=
  tv_callSN_g As hC cw hn hW d hf (fun v u2 hK => by obtain ⟨h1, h2⟩ := hK; cases h1; cases h2; exact kk)
theorem tv_callSNr {index maxL n : Nat} {y : MethodName} {ws : List Cond} {rm : Room} {bytes : ByteArray} {ret' : Option FieldType} (As : List Value) {host : String} {r : Nat} {u' : tc_S} (hC : tc_C X G l y ws rm 0 0 (As) u (tc_Kr r u')) (cw : (∀ w ∈ Ts, w.before args s = true) → tc_N X s → (va_CN R s args own index y host bytes maxL ret' ws rm 0 0 n ∧ (Cond.static y).before args s = true ∧ True)) (hn : As.length = n) (hW : (rest.map fun v => v.category).sum ≤ 8) (d : decode cc pc = .ok (.invokestatic index, 3)) (hf : cells + 0 ≤ R.cells ∧ slots + 0 ≤ R.slots) (kk : tc_V X G p l e R s m args below meth c cc nL Ts own ret hh Q cells slots u' (pc + 3) lv (.ref r :: rest)) : tc_V X G p l e R s m args below meth c cc nL Ts own ret hh Q cells slots u pc lv (As.reverse ++ rest) :=
  tv_callSN_g As hC cw hn hW d hf (fun v u2 hK => by obtain ⟨h1, h2⟩ := hK; cases h1; cases h2; exact kk)
theorem tv_callU_g {b ci N index maxL mc ms n : Nat} {fl : List Nat} {C : String} {T : u_T} {y : MethodName} {ws : List Cond} {rm : Room} {bytes : ByteArray} {ret' : Option FieldType} (As : List Value) {owner : String} {x : MethodName} {K : Outcome → tc_S → Prop} (hk0 : X.1[b]? = some (4, ci, fl)) (hc0 : X.2.1[ci]? = some (C, T, N)) (hC : tc_C X G l y ws rm mc ms (.ref (tc_ad G b) :: As) u K) (cw : (∀ w ∈ Ts, w.before args s = true) → tc_N X s → va_CU R s args own C owner index x y bytes maxL ret' ws rm mc ms n) (hn : As.length = n) (hW : (rest.map fun v => v.category).sum ≤ 8) (d : decode cc pc = .ok (.invokevirtual index, 3)) (hf : cells + mc ≤ R.cells ∧ slots + ms ≤ R.slots) (kk : ∀ (v : Option Value) (u' : tc_S), K (.returned v) u' → tc_V X G p l e R s m args below meth c cc nL Ts own ret hh Q (cells + mc) (slots + ms) u' (pc + 3) lv (v.toList ++ rest)) : tc_V X G p l e R s m args below meth c cc nL Ts own ret hh Q cells slots u pc lv (As.reverse ++ .ref (tc_ad G b) :: rest) := by
  intro hx hb hm ho ht hr hk hq0 ls H locs hl hw  
  exact tc_cont hw (va_runU (As := As) (rest := rest) ⟨hx, hb, hm, ho, ht⟩ (hC H.size) (cw ht hw.2.2.2.2.2.2) ⟨tc_blind, tc_recv hw hk0 hc0, tc_pre hw⟩ rfl hn hl.1 rfl (lv_room hW) d hf) (fun v u' H1 locs1 hK hw1 => kk v u' hK hx hb hm ho ht hr hk hq0 ls H1 locs1 hl hw1)
theorem tv_callUi {b ci N index maxL n : Nat} {fl : List Nat} {C : String} {T : u_T} {y : MethodName} {ws : List Cond} {rm : Room} {bytes : ByteArray} {ret' : Option FieldType} (As : List Value) {owner : String} {x : MethodName} {r : Int32} {u' : tc_S} (hk0 : X.1[b]? = some (4, ci, fl)) (hc0 : X.2.1[ci]? = some (C, T, N)) (hC : tc_C X G l y ws rm 0 0 (.ref (tc_ad G b) :: As) u (tc_Ki r u')) (cw : (∀ w ∈ Ts, w.before args s = true) → tc_N X s → va_CU R s args own C owner index x y bytes maxL ret' ws rm 0 0 n) (hn : As.length = n) (hW : (rest.map fun v => v.category).sum ≤ 8) (d : decode cc pc = .ok (.invokevirtual index, 3)) (hf : cells + 0 ≤ R.cells ∧ slots + 0 ≤ R.slots) (kk : tc_V X G p l e R s m args below meth c cc nL Ts own ret hh Q cells slots u' (pc + 3) lv (.int r :: rest)) : tc_V X G p l e R s m args below meth c cc nL Ts own ret hh Q cells slots u pc lv (As.reverse ++ .ref (tc_ad G b) :: rest) :=
  tv_callU_g As hk0 hc0 hC cw hn hW d hf (fun v u2 hK => by obtain ⟨h1, h2⟩ := hK; cases h1; cases h2; exact kk)
theorem tv_callUv {b ci N index maxL n : Nat} {fl : List Nat} {C : String} {T : u_T} {y : MethodName} {ws : List Cond} {rm : Room} {bytes : ByteArray} {ret' : Option FieldType} (As : List Value) {owner : String} {x : MethodName} {u' : tc_S} (hk0 : X.1[b]? = some (4, ci, fl)) (hc0 : X.2.1[ci]? = some (C, T, N)) (hC : tc_C X G l y ws rm 0 0 (.ref (tc_ad G b) :: As) u (tc_Kv u')) (cw : (∀ w ∈ Ts, w.before args s = true) → tc_N X s → va_CU R s args own C owner index x y bytes maxL ret' ws rm 0 0 n) (hn : As.length = n) (hW : (rest.map fun v => v.category).sum ≤ 8) (d : decode cc pc = .ok (.invokevirtual index, 3)) (hf : cells + 0 ≤ R.cells ∧ slots + 0 ≤ R.slots) (kk : tc_V X G p l e R s m args below meth c cc nL Ts own ret hh Q cells slots u' (pc + 3) lv (rest)) : tc_V X G p l e R s m args below meth c cc nL Ts own ret hh Q cells slots u pc lv (As.reverse ++ .ref (tc_ad G b) :: rest) :=
  tv_callU_g As hk0 hc0 hC cw hn hW d hf (fun v u2 hK => by obtain ⟨h1, h2⟩ := hK; cases h1; cases h2; exact kk)
theorem tv_callUr {b ci N index maxL n : Nat} {fl : List Nat} {C : String} {T : u_T} {y : MethodName} {ws : List Cond} {rm : Room} {bytes : ByteArray} {ret' : Option FieldType} (As : List Value) {owner : String} {x : MethodName} {r : Nat} {u' : tc_S} (hk0 : X.1[b]? = some (4, ci, fl)) (hc0 : X.2.1[ci]? = some (C, T, N)) (hC : tc_C X G l y ws rm 0 0 (.ref (tc_ad G b) :: As) u (tc_Kr r u')) (cw : (∀ w ∈ Ts, w.before args s = true) → tc_N X s → va_CU R s args own C owner index x y bytes maxL ret' ws rm 0 0 n) (hn : As.length = n) (hW : (rest.map fun v => v.category).sum ≤ 8) (d : decode cc pc = .ok (.invokevirtual index, 3)) (hf : cells + 0 ≤ R.cells ∧ slots + 0 ≤ R.slots) (kk : tc_V X G p l e R s m args below meth c cc nL Ts own ret hh Q cells slots u' (pc + 3) lv (.ref r :: rest)) : tc_V X G p l e R s m args below meth c cc nL Ts own ret hh Q cells slots u pc lv (As.reverse ++ .ref (tc_ad G b) :: rest) :=
  tv_callU_g As hk0 hc0 hC cw hn hW d hf (fun v u2 hK => by obtain ⟨h1, h2⟩ := hK; cases h1; cases h2; exact kk)
end TV
theorem tc_noH {p : Program} {l : Launch} {y : MethodName} {ws : List Cond} {rm : Room} {cc : ByteArray} {nL : Nat} {ret : Option FieldType} {e : Env} {s : State} {m : MethodId} {args : Array Value} {below : List Frame} {meth : Method} {c : Code} {s₁ : State}
    (B : BodyLoose p l y (headSpec ws rm) cc nL ret e s m args below meth c s₁) (h : Cond.code y cc nL ret ∈ ws) : c.exceptionTable.toList.map (fun h => (h.startPc, h.endPc, h.handlerPc, h.catchType)) = [] := by
  obtain ⟨meth', c', h1, h2, -, -, -, -, h3, -⟩ := Cond.code_spec B.named (atoms_spec (ws := ws) B.pre _ h)
  cases B.method.symm.trans h1
  cases (Stand.of_body B).code.symm.trans h2
  rw [Array.isEmpty_iff] at h3
  rw [h3]
  rfl
/-- a contract out of a walk -/
theorem tc_ofV {X : tc_X} {G : tc_G} {l : Launch} {y : MethodName} {ws ws' : List Cond} {rm : Room} {mc ms nL : Nat} {cc : ByteArray} {ret : Option FieldType} {av : List Value} {u : tc_S} {K : Outcome → tc_S → Prop} (lv : List (Option Value))
    (hy : plainName y.cls = true) (hw : ws = Cond.code y cc nL ret :: ws') (hn : (lg_sl av).length ≤ nL) (hlv : lv_args 0 av = tc_as 0 lv)
    (body : ∀ (p : Program) (e : Env) (s : State) (m : MethodId) (args : Array Value) (below : List Frame) (meth : Method) (c : Code), tc_V X G p l e rm s m args below meth c cc nL ws y.cls ret [] (MQ below (tc_Qc X G K s.heap.size) args s mc ms (tc_A X G s.heap.size)) 0 0 u 0 lv []) : tc_C X G l y ws rm mc ms av u K := by
  intro sz
  refine Met.ofW (cc := cc) (maxL := nL) (ret := ret) hy hw ?_
  intro p e s m args below meth c s₁ B hml hv
  obtain ⟨rfl, hsz, hP, hK, hD, hZ, hN⟩ := hv
  subst hsz
  have hl := lv_entry av hn
  rw [lg_entry_eq]
  rw [hlv] at hl
  exact body p e s m _ below meth c B.exec B.bytes hml (findClass_of_methodNamed B.named) (atoms_spec (ws := ws) B.pre) B.returns B.notSynchronized (tc_noH B (by rw [hw]; exact List.mem_cons_self)) _ s.heap [] hl
    ⟨hP, hK, tc_D_of hD (fun k hk => Or.inl ⟨k, hk, rfl⟩), va_S.rf, fun q h => Or.inr h, hZ, hN⟩
end
section
/-! Methods that throw: contracts tc_T (the method leaves by an exception of a class, its world as said), and calls of them. -/
def tc_QT (X : tc_X) (G : tc_G) (cls : String) (u : tc_S) (sz : Nat) : Array Value → State → Outcome → State → Prop := fun _ st oc t =>
  (∃ (x : Addr) (ce : Cell), oc = .threw x ∧ t.heap[x]? = some ce ∧ ce.vm.isStatics = false ∧ t.vm.findClass cls = some ce.cls) ∧ va_P G.1 X.2.1 (tc_w X G u) t.heap ∧ va_K G.1 X.2.1 (tc_ty G) t ∧ va_F (tc_A X G sz) st t
def tc_EL (free : Nat → Prop) (st t : State) (mc ms : Nat) : Prop := ∃ L : List Loc, st.WarmedH t.vm ∧ st.sameButNew ({ t with vm := st.vm } : State) L mc ms ∧ ∀ q ∈ L, free q.base
def tc_T (X : tc_X) (G : tc_G) (l : Launch) (y : MethodName) (ws : List Cond) (rm : Room) (mc ms : Nat) (av : List Value) (u u' : tc_S) (cls : String) : Prop :=
  ∀ sz : Nat, MetFree l y (headSpec ws rm) (tc_Pc X G av u sz) (fun _ _ _ _ _ => True) (fun a st o t => tc_QT X G cls u' sz a st o t ∧ tc_EL (tc_A X G sz) st t mc ms)
def tc_MT (X : tc_X) (G : tc_G) (below : List Frame) (cls : String) (u : tc_S) (args : Array Value) (s : State) (mc ms : Nat) : State → Prop := fun t =>
  ∃ o, t.status = .running ∧ Ended t below o ∧ tc_QT X G cls u s.heap.size args s o t ∧ tc_EL (tc_A X G s.heap.size) s t mc ms
section TT
variable {X : tc_X} {G : tc_G} {p : Program} {l : Launch} {e : Env} {R : Room} {s : State} {m : MethodId} {args : Array Value} {below : List Frame} {meth : Method} {c : Code}
variable {y : MethodName} {ws : List Cond} {rm : Room} {mc ms maxL : Nat} {u u' : tc_S} {cls : String} {bytes : ByteArray} {ret : Option FieldType}
theorem tc_thrown {av : List Value} {T : State} {locs : List Loc} {cells slots : Nat} {ig : Instr} {mk : MethodId} {g : JFrame} (hC : tc_T X G l y ws rm mc ms av u u' cls) (XT : Stand p l e R s m args below meth c T locs cells slots) (hg : g.method = m) (hsize : g.locals.size = c.maxLocals) (hdg : decode c.code g.pc = .ok (ig, 3))
    (hW : 2 * g.monitorRoom + (g.stack.map fun v => v.category).sum ≤ 8) (hn : T.methodNamed? y = some mk) (hrc : rm.cells = mc) (hrs : rm.slots = ms) (hfr : rm.frames + 1 ≤ R.frames) (hlo : 8 + (maxL + 11) + rm.locals ≤ R.locals)
    (hws : ∀ w ∈ ws, ∀ (a' : Array Value) (U : State), s.WarmedH U.vm → w.before a' U = true) (hcode : Cond.code y bytes maxL ret ∈ ws) (hini : (Cond.initialized y.cls).before args s = true) (hf : cells + mc ≤ R.cells ∧ slots + ms ≤ R.slots) (hP : tc_Pc X G av u T.heap.size av.toArray T) :
    ∃ (x : Addr) (T' t : State) (L : List Loc), Stand p l e R s m args below meth c T' (locs ++ L) (cells + mc) (slots + ms) ∧ T'.heap = t.heap ∧ T'.vm = t.vm ∧ tc_QT X G cls u' T.heap.size av.toArray (T.calling g mk av.toArray) (.threw x) t ∧ (∀ q ∈ L, tc_A X G T.heap.size q.base) ∧
      Steps p.tables e below (doInvoke e (T.setTop g) [] mk av.toArray).1 ((T'.setTop g).pushFrame (.throwing x)) := by
  have h2 := hws _ hcode av.toArray T XT.warmed
  obtain ⟨methY, cY, hmY, hcY, -, hlY, -⟩ := Cond.code_spec hn h2
  obtain ⟨kY, hkY, -⟩ := className_of_methodNamed hn
  have hini' : (Cond.initialized y.cls).before av.toArray T = true := word_at XT.warmed (Or.inl (by first | rfl | simp [Cond.onTables, Cond.keeps, Cond.steady])) hini
  have hinitY : kY.init = .initialized := Cond.initialized_spec (findClass_of_methodNamed hn) hkY hini'
  have h : At T g.method c below := by rw [hg]; exact XT.here
  have hlo2 : 2 * g.monitorRoom + (g.stack.map fun v => v.category).sum + (cY.maxLocals + 11) + rm.locals ≤ R.locals := by rw [hlY]; omega
  have happ : (headSpec ws rm).appliesLoose y e.platform (T.calling g mk av.toArray) = true :=
    Spec.appliesLoose_calling (g := g) h hdg hn hkY hinitY
      (XT.room_calling (g := g) (R' := (headSpec ws rm).room) hsize hmY hcY hfr hlo2 (by show cells + rm.cells ≤ _; rw [hrc]; exact hf.1) (by show slots + rm.slots ≤ _; rw [hrs]; exact hf.2))
      (atoms_intro fun w hw => hws w hw _ _ XT.warmed)
  obtain ⟨mid, hmid⟩ := h.above
  have hfrm : (T.setTop g).frames = (.java g :: mid) ++ below := by rw [State.frames_setTop' g h.top, hmid]; rfl
  obtain ⟨o, s₂, hsteps, -, hend, hq⟩ := Steps.callFree (hC T.heap.size) p XT.admits XT.cas XT.clock (acts := []) hfrm happ (tc_blind _ _ g mk hP) trivial
  rw [State.frames_setTop' g h.top, XT.tail] at hend
  have hq' : tc_QT X G cls u' T.heap.size av.toArray (T.calling g mk av.toArray) o s₂ ∧ tc_EL (tc_A X G T.heap.size) (T.calling g mk av.toArray) s₂ mc ms := hq
  obtain ⟨hq1, L, hW₂, hsame, hL⟩ := hq'
  obtain ⟨x, ce, ho, hce⟩ := hq1.1
  subst ho
  obtain ⟨T', X', hW', hs', eq⟩ := XT.outOfThrown hg hend hW₂ hsame
  have e1 : s₂.heap = T'.heap := by rw [eq]; exact Stand.throwing_heap T' g x
  have e2 : s₂.vm = T'.vm := by rw [eq]; exact Stand.throwing_vm T' g x
  exact ⟨x, T', s₂, L, X', e1.symm, e2.symm, hq1, hL, by rw [← eq]; exact hsteps⟩
/-- what is behind a call: the world that came back beside what is the walk's own -/
theorem tc_next {H H1 : Heap} {locs L : List Loc} {t : State} (hw : tc_W X G (tc_A X G s.heap.size) s H locs u) (hal : s.vm.Alike t.vm) (hP' : va_P G.1 X.2.1 (tc_w X G u') H1) (hK' : va_K G.1 X.2.1 (tc_ty G) t) (hz : H.size ≤ H1.size) (hkp : ∀ q : Nat, q < H.size → ¬ tc_A X G H.size q → H1[q]? = H[q]?) (hL : ∀ q ∈ L, tc_A X G H.size q.base) :
    tc_W X G (tc_A X G s.heap.size) s H1 (locs ++ L) u' := by
  obtain ⟨h1, h2, h3, h4, h5, h6, h7⟩ := hw
  refine ⟨hP', va_K.moved hal.symm hK', tc_D_of h3 (fun k hk => Or.inl ⟨k, hk, rfl⟩), ⟨Nat.le_trans h4.1 hz, fun q hq hA => ?_, fun q hq => ?_⟩, h5, h6, h7⟩
  · rw [hkp q (Nat.lt_of_lt_of_le hq h4.1) (fun z => hA (tc_A.up h4.1 q z))]; exact h4.2.1 q hq hA
  · rcases List.mem_append.mp hq with h | h
    · exact h4.2.2 q h
    · exact tc_A.up h4.1 _ (hL q h)
variable {cc : ByteArray} {nL index n pc : Nat} {Ts : List Cond} {own C : String} {As rest : List Value} {H : Heap} {locs : List Loc} {ls : Array Slot} {cells slots : Nat} {ret' : Option FieldType}
/-- a call that throws: the note lies over the frame, its arguments taken off -/
def tc_TR (X : tc_X) (G : tc_G) (p : Program) (l : Launch) (e : Env) (R : Room) (s : State) (m : MethodId) (args : Array Value) (below : List Frame) (meth : Method) (c : Code) (H : Heap) (locs : List Loc) (cells slots mc ms : Nat) (g : JFrame) (rest : List Value) (u' : tc_S) (cls : String) : Prop :=
  ∀ T : State, T.heap = H → Stand p l e R s m args below meth c T locs cells slots → ∃ (x : Addr) (ce : Cell) (T' : State) (L : List Loc), Stand p l e R s m args below meth c T' (locs ++ L) (cells + mc) (slots + ms) ∧ T'.heap[x]? = some ce ∧ ce.vm.isStatics = false ∧ T'.vm.findClass cls = some ce.cls ∧
    tc_W X G (tc_A X G s.heap.size) s T'.heap (locs ++ L) u' ∧ Steps p.tables e below (T.setTop g) ((T'.setTop { g with stack := rest }).pushFrame (.throwing x))
theorem tc_tr {av : List Value} {T : State} {vm₁ : Vm} {g : JFrame} {ig : Instr} {mk : MethodId} (hw : tc_W X G (tc_A X G s.heap.size) s H locs u) (hC : tc_T X G l y ws rm mc ms av u u' cls) (hT : T.heap = H) (X₁ : Stand p l e R s m args below meth c (T.setVm vm₁) locs cells slots)
    (hg : g.method = m) (hsize : g.locals.size = c.maxLocals) (hdg : decode c.code g.pc = .ok (ig, 3)) (hW : 2 * g.monitorRoom + (g.stack.map fun v => v.category).sum ≤ 8) (hn : (T.setVm vm₁).methodNamed? y = some mk) (hrc : rm.cells = mc) (hrs : rm.slots = ms) (hfr : rm.frames + 1 ≤ R.frames) (hlo : 8 + (maxL + 11) + rm.locals ≤ R.locals)
    (hws : ∀ w ∈ ws, ∀ (a' : Array Value) (U : State), s.WarmedH U.vm → w.before a' U = true) (hcode : Cond.code y bytes maxL ret ∈ ws) (hini : (Cond.initialized y.cls).before args s = true) (hf : cells + mc ≤ R.cells ∧ slots + ms ≤ R.slots) :
    ∃ (x : Addr) (ce : Cell) (T' : State) (L : List Loc), Stand p l e R s m args below meth c T' (locs ++ L) (cells + mc) (slots + ms) ∧ T'.heap[x]? = some ce ∧ ce.vm.isStatics = false ∧ T'.vm.findClass cls = some ce.cls ∧
      tc_W X G (tc_A X G s.heap.size) s T'.heap (locs ++ L) u' ∧ Steps p.tables e below (doInvoke e ((T.setVm vm₁).setTop g) [] mk av.toArray).1 ((T'.setTop g).pushFrame (.throwing x)) := by
  have hP : tc_Pc X G av u (T.setVm vm₁).heap.size av.toArray (T.setVm vm₁) := by
    rw [show (T.setVm vm₁).heap.size = H.size by rw [← hT]; rfl]
    exact tc_pre hw (T.setVm vm₁) hT X₁.warmed
  obtain ⟨x, T', t, L, X', e1, e2, ⟨⟨x', ce, ho, hce, hst, hfc⟩, hP', hK', hz, hkp⟩, hL, st⟩ := tc_thrown hC X₁ hg hsize hdg hW hn hrc hrs hfr hlo hws hcode hini hf hP
  cases ho
  have hh : (T.setVm vm₁).heap = H := hT
  have hh2 : ((T.setVm vm₁).calling g mk av.toArray).heap = H := hT
  rw [hh2] at hz hkp
  rw [hh] at hkp hL
  refine ⟨x, ce, T', L, X', by rw [e1]; exact hce, hst, by rw [e2]; exact hfc, ?_, st⟩
  rw [e1]
  exact tc_next hw (by rw [← e2]; exact X'.warmed.alike) hP' hK' hz hkp hL
theorem tc_trS (hw : tc_W X G (tc_A X G s.heap.size) s H locs u) (hx : p.tables.exec = Jvm.exec) (hb : c.code = cc) (hm : c.maxLocals = nL) (ho : s.vm.findClass own = some m.cls) (hC : tc_T X G l y ws rm mc ms As u u' cls)
    (cw : CallB R s args own index y bytes maxL ret' ws rm mc ms n ∧ (Cond.static y).before args s = true) (hn : As.length = n) (hsz : ls.size = nL) (hW : (rest.map fun v => v.category).sum ≤ 8) (d : decode cc pc = .ok (.invokestatic index, 3)) (hf : cells + mc ≤ R.cells ∧ slots + ms ≤ R.slots) :
    tc_TR X G p l e R s m args below meth c H locs cells slots mc ms (F0 m pc ls (As.reverse ++ rest)) rest u' cls := by
  obtain ⟨⟨hrc, hrs, hfr, hlo, hws, hcw, hcode, hini, hy, hlen, hl⟩, hstt⟩ := cw
  intro T hT XT
  obtain ⟨mk, hnamed⟩ := Cond.code_named hcode
  obtain ⟨methM, cM, hmethM, -, -, -, -, -, -, hsigM⟩ := Cond.code_spec hnamed hcode
  have hstatic : methM.isStatic = true := Cond.static_spec hnamed hmethM hstt
  obtain ⟨kP, hkP, -⟩ := className_of_methodNamed hnamed
  have hinitP : kP.init = .initialized := Cond.initialized_spec (findClass_of_methodNamed hnamed) hkP hini
  obtain ⟨vm₁, X₁, hstep₁⟩ := XT.invokestatic hx ho hl hnamed hmethM hstatic hkP hinitP hy (g := F0 m pc ls (As.reverse ++ rest)) rfl (argsL := As) (rest := rest) (hn.trans (hlen _ hsigM)) rfl (by rw [hb]; exact d)
  obtain ⟨x, ce, T', L, X', h1, h2, h3, h4, st⟩ := tc_tr (g := F0 m pc ls rest) hw hC hT X₁ rfl (hsz.trans hm.symm) (by rw [hb]; exact d) (lv_room hW) (X₁.named hnamed) hrc hrs hfr hlo hws hcw hini hf
  exact ⟨x, ce, T', L, X', h1, h2, h3, h4, hstep₁ _ fun acts => by rw [doInvoke_state]; exact st⟩
theorem tc_trV {b ci N : Nat} {fl : List Nat} {Tt : u_T} (hw : tc_W X G (tc_A X G s.heap.size) s H locs u) (hx : p.tables.exec = Jvm.exec) (hb : c.code = cc) (hm : c.maxLocals = nL) (ho : s.vm.findClass own = some m.cls) (hk0 : X.1[b]? = some (4, ci, fl)) (hc0 : X.2.1[ci]? = some (C, Tt, N)) (hC : tc_T X G l y ws rm mc ms (.ref (tc_ad G b) :: As) u u' cls)
    (cw : CallW R s args own C index y bytes maxL ret' ws rm mc ms n) (hn : As.length = n) (hsz : ls.size = nL) (hW : (rest.map fun v => v.category).sum ≤ 8) (d : decode cc pc = .ok (.invokevirtual index, 3)) (hf : cells + mc ≤ R.cells ∧ slots + ms ≤ R.slots) :
    tc_TR X G p l e R s m args below meth c H locs cells slots mc ms (F0 m pc ls (As.reverse ++ .ref (tc_ad G b) :: rest)) rest u' cls := by
  obtain ⟨⟨hrc, hrs, hfr, hlo, hws, hcw, hcode, hini, hy, hlen, hl⟩, hinst, hsel⟩ := cw
  obtain ⟨cellB, hcB, hoB, hclB⟩ := tc_recv hw hk0 hc0
  intro T hT XT
  obtain ⟨mk, methM, hnamed, hmethM, hstM, habM⟩ := Cond.instanceMethod_spec hinst
  obtain ⟨methM', cM, hmethM', -, -, -, -, -, -, hsigM⟩ := Cond.code_spec hnamed hcode
  cases hmethM.symm.trans hmethM'
  obtain ⟨c2, r2, m2, q1, q2, q3, q4, kP, hkP, hkPi⟩ := Cond.selects_spec hsel
  cases hclB.symm.trans q1
  cases (State.methodFound?_of_named hnamed hy).symm.trans q2
  cases hnamed.symm.trans q3
  have hselP : selectMethod e.platform s.vm cellB.cls mk = .method mk := by rw [Launch.admits_selectMethod XT.admits]; exact q4
  obtain ⟨vm₁, X₁, hstep₁⟩ := XT.invokevirtual hx ho hl hnamed hmethM hstM hkP hkPi hy (a := tc_ad G b) (cell := cellB) (by rw [hT]; exact hcB)
    (fun z h => by rw [h] at hoB; cases hoB) hselP hmethM habM hkP hkPi (g := F0 m pc ls (As.reverse ++ .ref (tc_ad G b) :: rest)) rfl (argsL := As) (rest := rest) (hn.trans (hlen _ hsigM)) rfl (by rw [hb]; exact d)
  obtain ⟨x, ce, T', L, X', h1, h2, h3, h4, st⟩ := tc_tr (g := F0 m pc ls rest) hw hC hT X₁ rfl (hsz.trans hm.symm) (by rw [hb]; exact d) (lv_room hW) (X₁.named hnamed) hrc hrs hfr hlo hws hcw hini hf
  exact ⟨x, ce, T', L, X', h1, h2, h3, h4, hstep₁ _ fun acts => by rw [doInvoke_state]; exact st⟩
theorem tc_trOut {st0 : List Value} {mc' ms' : Nat} (hr : tc_TR X G p l e R s m args below meth c H locs cells slots mc ms (F0 m pc ls st0) rest u' cls) (hq0 : c.exceptionTable.toList.map (fun h => (h.startPc, h.endPc, h.handlerPc, h.catchType)) = []) (hk : meth.locks = false) (hc : cells + mc ≤ mc') (hs : slots + ms ≤ ms') :
    W p l e R s m args below meth c H locs cells slots (tc_MT X G below cls u' args s mc' ms') (F0 m pc ls st0) := by
  intro T hT XT
  obtain ⟨x, ce, T', L, X', h1, h2, h3, hw', st⟩ := hr T hT XT
  have htab : c.exceptionTable.toList = [] := List.map_eq_nil_iff.mp hq0
  obtain ⟨st2, hrun, hended, hWU, hsame⟩ := X'.leaveThrown x (g := { F0 m pc ls st0 with stack := rest }) rfl rfl rfl (fun y hy => by rw [htab] at hy; cases hy) hk
  exact ⟨_, st.trans st2, .threw x, hrun, hended, ⟨⟨x, ce, rfl, h1, h2, h3⟩, hw'.1, va_K.moved X'.warmed.alike hw'.2.1, hw'.2.2.2.1.F rfl⟩, locs ++ L, hWU, hsame.mono hc hs, hw'.2.2.2.1.2.2⟩
end TT
section TW
variable {X : tc_X} {G : tc_G} {p : Program} {l : Launch} {e : Env} {R : Room} {s : State} {m : MethodId} {args : Array Value} {below : List Frame} {meth : Method} {c : Code}
variable {cc : ByteArray} {nL : Nat} {Ts : List Cond} {own : String} {ret : Option FieldType} {cells slots : Nat} {u u' : tc_S} {pc : Nat} {lv : List (Option Value)} {rest : List Value}
variable {b ci N index maxL mc ms mc' ms' n : Nat} {fl : List Nat} {C cls : String} {T : u_T} {y : MethodName} {ws : List Cond} {rm : Room} {bytes : ByteArray} {ret' : Option FieldType}
/-- a call that throws, out of a method without handlers -/
theorem tv_thrS (As : List Value) (hC : tc_T X G l y ws rm mc ms As u u' cls) (cw : (∀ w ∈ Ts, w.before args s = true) → (CallB R s args own index y bytes maxL ret' ws rm mc ms n ∧ (Cond.static y).before args s = true)) (hn : As.length = n) (hW : (rest.map fun v => v.category).sum ≤ 8) (d : decode cc pc = .ok (.invokestatic index, 3)) (hf : cells + mc ≤ R.cells ∧ slots + ms ≤ R.slots) (hc : cells + mc ≤ mc') (hs : slots + ms ≤ ms') :
    tc_V X G p l e R s m args below meth c cc nL Ts own ret [] (tc_MT X G below cls u' args s mc' ms') cells slots u pc lv (As.reverse ++ rest) :=
  fun hx hb hm ho ht _ hk hq0 _ _ _ hl hw => tc_trOut (tc_trS hw hx hb hm ho hC (cw ht) hn hl.1 hW d hf) hq0 hk hc hs
theorem tv_thrV (As : List Value) (hk0 : X.1[b]? = some (4, ci, fl)) (hc0 : X.2.1[ci]? = some (C, T, N)) (hC : tc_T X G l y ws rm mc ms (.ref (tc_ad G b) :: As) u u' cls) (cw : (∀ w ∈ Ts, w.before args s = true) → CallW R s args own C index y bytes maxL ret' ws rm mc ms n) (hn : As.length = n) (hW : (rest.map fun v => v.category).sum ≤ 8) (d : decode cc pc = .ok (.invokevirtual index, 3)) (hf : cells + mc ≤ R.cells ∧ slots + ms ≤ R.slots) (hc : cells + mc ≤ mc') (hs : slots + ms ≤ ms') :
    tc_V X G p l e R s m args below meth c cc nL Ts own ret [] (tc_MT X G below cls u' args s mc' ms') cells slots u pc lv (As.reverse ++ .ref (tc_ad G b) :: rest) :=
  fun hx hb hm ho ht _ hk hq0 _ _ _ hl hw => tc_trOut (tc_trV hw hx hb hm ho hk0 hc0 hC (cw ht) hn hl.1 hW d hf) hq0 hk hc hs
end TW
/-- a contract of a method that throws, out of a walk -/
theorem tc_ofT {X : tc_X} {G : tc_G} {l : Launch} {y : MethodName} {ws ws' : List Cond} {rm : Room} {mc ms nL : Nat} {cc : ByteArray} {ret : Option FieldType} {av : List Value} {u u' : tc_S} {cls : String} (lv : List (Option Value))
    (hy : plainName y.cls = true) (hw : ws = Cond.code y cc nL ret :: ws') (hn : (lg_sl av).length ≤ nL) (hlv : lv_args 0 av = tc_as 0 lv)
    (body : ∀ (p : Program) (e : Env) (s : State) (m : MethodId) (args : Array Value) (below : List Frame) (meth : Method) (c : Code), tc_V X G p l e rm s m args below meth c cc nL ws y.cls ret [] (tc_MT X G below cls u' args s mc ms) 0 0 u 0 lv []) : tc_T X G l y ws rm mc ms av u u' cls := by
  intro sz
  refine MetFree.of_bodyS (code := cc) (maxLocals := nL) (ret := ret) hy ?_ ?_
  · intro args s m h hn
    obtain ⟨meth, c, h1, h2, h3, h4, h5, h6, -, -⟩ := Cond.code_spec hn (atoms_spec (ws := ws) h _ (by rw [hw]; exact List.mem_cons_self))
    exact ⟨meth, c, h1, h2, h3, h4, h5, h6⟩
  · intro p e s m args below meth c s₁ B hml hv _
    obtain ⟨rfl, hsz, hP, hK, hD, hZ, hN⟩ := hv
    subst hsz
    have hl := lv_entry av hn
    rw [hlv] at hl
    have hh0 : s₁.heap = s.heap := by rw [B.state]; rfl
    have key := body p e s m av.toArray below meth c B.exec B.bytes hml (findClass_of_methodNamed B.named) (atoms_spec (ws := ws) B.pre) B.returns B.notSynchronized (tc_noH B (by rw [hw]; exact List.mem_cons_self)) _ s.heap [] hl
      ⟨hP, hK, tc_D_of hD (fun k hk => Or.inl ⟨k, hk, rfl⟩), va_S.rf, fun q h => Or.inr h, hZ, hN⟩
    rw [← lg_entry_eq] at key
    obtain ⟨t, a1, o, b1, b2, b3⟩ := key s₁ hh0 (Stand.of_body B)
    exact ⟨t, o, a1, b1, b2, b3⟩
/-- a word of a throw: among the method's own; or carried apart -/
def tc_okw (X : tc_X) (ws : List Cond) (w : Cond) : Bool := decide (w ∈ ws) || match w with
  | .declares z => decide (z ∈ X.2.2.2.2.1)
  | .laysStatic a b c => decide ((a, b, c) ∈ X.2.2.2.2.2.1)
  | .isRef (.static a b c) => decide ((a, b, c) ∈ X.2.2.2.2.2.1)
  | .castable a b => decide ((a, b, true) ∈ X.2.2.2.2.2.2)
  | _ => false
theorem tc_okw_at {X : tc_X} {A : Nat → Prop} {s : State} {args : Array Value} {ws : List Cond} (hts : ∀ w ∈ ws, w.before args s = true) (hZ : tc_Z X A s s.heap) (hN : tc_N X s) {w : Cond} (h : tc_okw X ws w = true) : w.before args s = true := by
  unfold tc_okw at h
  rw [Bool.or_eq_true] at h
  rcases h with h | h
  · exact hts w (of_decide_eq_true h)
  · split at h
    · exact va_Nw.use rfl (hN.2.1 _ (of_decide_eq_true h))
    · exact (hZ.2 _ (of_decide_eq_true h)).lays args
    · exact (hZ.2 _ (of_decide_eq_true h)).isRef args
    · obtain ⟨x, y, h1, h2, h3⟩ := hN.2.2 _ (of_decide_eq_true h)
      simp [Cond.before, Cond.holds, Cond.value, h1, h2, h3]
    · cases h
/-- 'if (!holds) throw new E();', where it doesn't hold -/
theorem tc_require {X : tc_X} {G : tc_G} {l : Launch} {y : MethodName} {ws ws' : List Cond} {rm : Room} {cc : ByteArray} {u : tc_S} {cls : String} {names : List String} {off : Int} {tgt idx ic : Nat}
    (hy : plainName y.cls = true) (hw : ws = Cond.code y cc 1 none :: ws') (d0 : decode cc 0 = .ok (.iload_n 0, 1)) (d1 : decode cc 1 = .ok (.ifCond .ne off, 3)) (ht : ((1 : Nat) : Int) + off = (tgt : Int)) (d4 : decode cc 4 = .ok (.new idx, 3)) (d7 : decode cc 7 = .ok (.dup, 1)) (d8 : decode cc 8 = .ok (.invokespecial ic, 3)) (d11 : decode cc 11 = .ok (.athrow, 1))
    (hcl : Cond.classLink y.cls idx cls ∈ ws) (hini : Cond.initialized cls ∈ ws) (hins : Cond.instantiable cls 6 ∈ ws) (hat : ∀ w ∈ Bundle.ownAtoms0 y.cls ic cls names, tc_okw X ws w = true) (hfit : Bundle.fit cls = true) (hnames : ∀ n ∈ names, Bundle.fit n = true) (htr : l.stackTraces = false)
    (hRf : names.length + 3 < rm.frames) (hRl : 13 * (names.length + 1) + 42 ≤ rm.locals) (hRc : 1 ≤ rm.cells) (hRs : 6 ≤ rm.slots) : tc_T X G l y ws rm 1 6 [.int 0] u u cls := by
  intro sz
  refine MetFree.of_bodyS (code := cc) (maxLocals := 1) (ret := none) hy ?_ ?_
  · intro args s m h hn
    obtain ⟨meth, c, h1, h2, h3, h4, h5, h6, -, -⟩ := Cond.code_spec hn (atoms_spec (ws := ws) h _ (by rw [hw]; exact List.mem_cons_self))
    exact ⟨meth, c, h1, h2, h3, h4, h5, h6⟩
  · intro p e s m args below meth c s₁ B hml hv _
    obtain ⟨rfl, hsz, hP, hK, hD, hZ, hN⟩ := hv
    subst hsz
    have hx := B.exec
    have hb := B.bytes
    have hts := atoms_spec (ws := ws) B.pre
    have hown : s.vm.findClass y.cls = some m.cls := findClass_of_methodNamed B.named
    have hk := B.notSynchronized
    have htab : c.exceptionTable.toList = [] := List.map_eq_nil_iff.mp (tc_noH B (by rw [hw]; exact List.mem_cons_self))
    have hl := lv_entry [.int 0] (n := 1) (by decide)
    have hh0 : s₁.heap = s.heap := by rw [B.state]; rfl
    have key : W p l e rm s m ([Value.int 0]).toArray below meth c s.heap [] 0 0 (tc_MT X G below cls u ([Value.int 0]).toArray s 1 6) (entryFrame m ([Value.int 0]).toArray 1) := by
      rw [lg_entry_eq]
      generalize (lg_sl [Value.int 0] ++ List.replicate (1 - (lg_sl [Value.int 0]).length) Slot.unset).toArray = ls at hl ⊢
      refine lv_iload_n hx hb d0 rfl (lv_at hl 0 rfl) ?_
      refine lv_if_ne hx hb d1 ht (fun h => absurd rfl h) (fun _ => ?_)
      refine W.newc hx hb hown (hts _ hcl) (hts _ hins) (hts _ hini) rfl d4 (by omega) (by omega) (fun cC kC hfC hkC hord hn6 => ?_)
      refine lv_dup hx hb d7 rfl ?_
      intro T hT XT
      have htr' : e.platform.stackTraces = false := (show e.platform.stackTraces = l.stackTraces by rw [XT.admits.platform]).trans htr
      obtain ⟨U, hsteps, hrun, hend, hW, hsame, ce, hce, hO⟩ := XT.ctorThrow0 hx htr' (own := y.cls) (cls := cls) (names := names) (ic := ic) hown hfit hnames (fun w hw => tc_okw_at hts hZ hN (hat w hw)) (fun x hx => by cases hx) hfC hkC
        (a := s.heap.size) (by rw [hT]; simp [freshCell]) (Nat.le_refl _) (g := F0 m 8 ls [.ref s.heap.size, .ref s.heap.size]) rfl (hl.1.trans hml.symm) rfl rfl (rest := []) rfl (by rw [hb]; exact d8) (by rw [hb]; exact d11) (fun x hx => by rw [htab] at hx; cases hx) hRf (by show 2 * 0 + (1 + 0) + _ ≤ rm.locals; omega) hk
      have hold : ∀ q : Nat, q < s.heap.size → U.heap[q]? = s.heap[q]? := by
        intro q hq
        obtain ⟨-, -, -, -, -, h6⟩ := hsame
        obtain ⟨c9, e1, e2, e3, e4⟩ := h6 q _ (Array.getElem?_eq_getElem hq)
        have hs9 : c9.slots = (s.heap[q]).slots := Array.ext_getElem? fun i => e4 i (fun hm => by cases hm)
        rw [hs9] at e2
        have e5 : U.heap[q]? = some c9 := e1
        rw [e5, e2, Array.getElem?_eq_getElem hq]
      have hz : s.heap.size ≤ U.heap.size := hsame.2.1
      refine ⟨U, hsteps, .threw s.heap.size, hrun, hend, ⟨⟨s.heap.size, ce, rfl, hce, by rw [hO.vm]; rfl, ?_⟩, ?_, va_K.moved hW.alike hK, hz, fun q hq _ => hold q hq⟩, [], hW, hsame, fun q hq => by cases hq⟩
      · rw [hW.alike.findClass]; exact hO.cls
      · exact hP.kept (fun k q hq => hold q.1 ((hP k q hq).lt))
    obtain ⟨t, a1, o, b1, b2, b3⟩ := key s₁ hh0 (Stand.of_body B)
    exact ⟨t, o, a1, b1, b2, b3⟩
end
section
/-! What a program means, apart from any machine: P j i is the number at place j of line i; n lines. -/
abbrev tp_P : Type := Nat → Nat → Int32
def tp_n (x : Int32) : Nat := x.toNatClampNeg
/-- the register that a line writes -/
def tp_w (P : tp_P) (i : Nat) : Option Nat := if P 0 i = 0 ∨ P 0 i = 1 ∨ P 0 i = 2 then some (tp_n (P 1 i)) else none
def tp_tg (n : Nat) (P : tp_P) (i : Nat) : Nat := if P 0 i = 4 then (if tp_n (P 2 i) < n then tp_n (P 2 i) else n) else i + 1
def tp_nx (n : Nat) (P : tp_P) (i q : Nat) : Prop := q = i + 1 ∨ q = tp_tg n P i
/-- a line reads a register at a place -/
def tp_rd (P : tp_P) (i j : Nat) : Prop := (j = 1 ∧ (P 0 i = 3 ∨ P 0 i = 4)) ∨ (j = 2 ∧ (P 0 i = 1 ∨ P 0 i = 2 ∨ P 0 i = 5)) ∨ (j = 3 ∧ P 0 i = 2)
def tp_line (P : tp_P) (i : Nat) : Prop :=
  (P 0 i = -1 ∨ P 0 i = 0 ∨ P 0 i = 1 ∨ P 0 i = 2 ∨ P 0 i = 3 ∨ P 0 i = 4 ∨ P 0 i = 5) ∧ (P 0 i ≠ -1 → ∃ a, a < 6 ∧ P 1 i = nI a) ∧ (P 0 i = 1 ∨ P 0 i = 2 ∨ P 0 i = 5 → ∃ a, a < 6 ∧ P 2 i = nI a) ∧ (P 0 i = 4 → ∃ a, a < 17 ∧ P 2 i = nI a) ∧ (P 0 i = 2 → ∃ a, a < 6 ∧ P 3 i = nI a) ∧ (P 0 i = 5 → ∃ a, a < 3 ∧ P 1 i = nI a)
/-- copies -/
def tp_cb (P : tp_P) (i s u : Nat) : Prop := P 0 i = 1 ∧ tp_n (P 1 i) = s ∧ tp_n (P 2 i) = u ∧ s ≠ u
def tp_cs (n : Nat) (P : tp_P) (S : Nat → Nat → Nat → Prop) : Prop := (∀ s u, ¬ S 0 s u) ∧ ∀ i q, i < n → tp_nx n P i q → ∀ s u, S q s u → tp_cb P i s u ∨ (S i s u ∧ tp_w P i ≠ some s ∧ tp_w P i ≠ some u)
def tp_c (n : Nat) (P : tp_P) (q s u : Nat) : Prop := ∃ S, tp_cs n P S ∧ S q s u
theorem tp_c_is {n : Nat} {P : tp_P} {D : Nat → Nat → Nat → Prop} (h1 : tp_cs n P D) (h2 : ∀ S, tp_cs n P S → ∀ q, q ≤ n → ∀ s u, S q s u → D q s u) {q s u : Nat} (hq : q ≤ n) : tp_c n P q s u ↔ D q s u :=
  ⟨fun ⟨S, hS, h⟩ => h2 S hS q hq s u h, fun h => ⟨D, h1, h⟩⟩
theorem tp_c_one {n : Nat} {P : tp_P} : ∀ q, q ≤ n → ∀ s u v, tp_c n P q s u → tp_c n P q s v → u = v := by
  intro q
  induction q with
  | zero => intro _ s u v ⟨S, hS, h⟩ _; exact absurd h (hS.1 s u)
  | succ q ih =>
    intro hq s u v ⟨S, hS, h⟩ ⟨S', hS', h'⟩
    have a := hS.2 q (q + 1) hq (Or.inl rfl) s u h
    have b := hS'.2 q (q + 1) hq (Or.inl rfl) s v h'
    have wc : ∀ u, tp_cb P q s u → tp_w P q = some s := by
      intro u hu
      unfold tp_w
      rw [if_pos (Or.inr (Or.inl hu.1)), hu.2.1]
    rcases a with a | a <;> rcases b with b | b
    · exact a.2.2.1.symm.trans b.2.2.1
    · exact absurd (wc u a) b.2.1
    · exact absurd (wc v b) a.2.1
    · exact ih (by omega) s u v ⟨S, hS, a.1⟩ ⟨S', hS', b.1⟩
noncomputable def tp_org (n : Nat) (P : tp_P) (i s : Nat) : Int32 := @dite _ (∃ u, tp_c n P i s u) (Classical.propDecidable _) (fun h => nI (Classical.choose h)) (fun _ => -1)
theorem tp_org_some {n : Nat} {P : tp_P} {i s u : Nat} (hi : i ≤ n) (h : tp_c n P i s u) : tp_org n P i s = nI u := by
  unfold tp_org
  rw [dif_pos ⟨u, h⟩]
  exact congrArg nI (tp_c_one i hi s _ u (Classical.choose_spec (⟨u, h⟩ : ∃ u, tp_c n P i s u)) h)
theorem tp_org_none {n : Nat} {P : tp_P} {i s : Nat} (h : ¬ ∃ u, tp_c n P i s u) : tp_org n P i s = -1 := by
  unfold tp_org
  rw [dif_neg h]
/-- one round's first half -/
def tp_q (n : Nat) (P : tp_P) (j i : Nat) : Prop := tp_rd P i j ∧ ∃ u, tp_c n P i (tp_n (P j i)) u
noncomputable def tp_p1 (n : Nat) (P : tp_P) (j i : Nat) : Int32 := @ite _ (tp_q n P j i) (Classical.propDecidable _) (tp_org n P i (tp_n (P j i))) (P j i)
noncomputable def tp_pass (n : Nat) (P : tp_P) : tp_P := fun j i => if i < n ∧ j < 4 then (if P 0 i = 1 ∧ tp_p1 n P 1 i = tp_p1 n P 2 i then (if j = 0 then -1 else 0) else tp_p1 n P j i) else 0
def tp_pch (n : Nat) (P : tp_P) : Prop := ∃ i, i < n ∧ ((∃ j, j < 4 ∧ tp_q n P j i) ∨ (P 0 i = 1 ∧ tp_p1 n P 1 i = tp_p1 n P 2 i))
/-- live registers -/
def tp_lc (n : Nat) (P : tp_P) (S : Nat → Nat → Prop) : Prop := ∀ i r, i < n → ((∃ j, (j = 1 ∨ j = 2 ∨ j = 3) ∧ tp_rd P i j ∧ P 0 i ≠ 5 ∧ tp_n (P j i) = r) ∨ (tp_w P i ≠ some r ∧ ∃ q, tp_nx n P i q ∧ S q r)) → S i r
def tp_l (n : Nat) (P : tp_P) (q r : Nat) : Prop := ∀ S, tp_lc n P S → S q r
def tp_dead (n : Nat) (P : tp_P) (i : Nat) : Prop := ∃ r, tp_w P i = some r ∧ ¬ ∃ q, tp_nx n P i q ∧ tp_l n P q r
noncomputable def tp_leave (n : Nat) (P : tp_P) : tp_P := fun j i => if i < n ∧ j < 4 then @ite _ (tp_dead n P i) (Classical.propDecidable _) (if j = 0 then -1 else 0) (P j i) else 0
def tp_lch (n : Nat) (P : tp_P) : Prop := ∃ i, i < n ∧ tp_dead n P i
noncomputable def tp_it (n : Nat) (P : tp_P) : Nat → tp_P
  | 0 => P
  | k + 1 => tp_leave n (tp_pass n (tp_it n P k))
def tp_ch (n : Nat) (P : tp_P) : Prop := tp_pch n P ∨ tp_lch n (tp_pass n P)
/-- carriers -/
def tp_g (P1 : tp_P) (i : Nat) (S : Nat → Nat → Prop) (x r : Nat) : Prop := if tp_w P1 i = some r then (P1 0 i = 1 ∧ S x (tp_n (P1 2 i))) else S x r
def tp_ks (P P1 : tp_P) (i : Nat) (S : Nat → Nat → Prop) (x r : Nat) : Prop :=
  if (P 0 i = 0 ∨ P 0 i = 2) ∧ x = tp_n (P 1 i) then P1 0 i ≠ -1 ∧ r = x
  else if P 0 i = 1 ∧ x = tp_n (P 1 i) then (P1 0 i ≠ -1 ∧ r = x) ∨ tp_g P1 i S (tp_n (P 2 i)) r
  else if P 0 i = 5 ∧ x = 6 + tp_n (P 1 i) then tp_g P1 i S (tp_n (P 2 i)) r
  else tp_g P1 i S x r
def tp_kS (n : Nat) (P P1 : tp_P) (S : Nat → Nat → Nat → Prop) : Prop := (∀ x r, S 0 x r → x < 6) ∧ ∀ i q, i < n → tp_nx n P i q → ∀ x r, x < 9 → r < 6 → S q x r → tp_ks P P1 i (S i) x r
def tp_k (n : Nat) (P P1 : tp_P) (q x r : Nat) : Prop := ∃ S, tp_kS n P P1 S ∧ S q x r
/-- constants -/
def tp_vs (P : tp_P) (i : Nat) (S : Nat → Int32 → Prop) (x : Nat) (c : Int32) : Prop :=
  if P 0 i = 0 ∧ x = tp_n (P 1 i) then c = P 2 i
  else if P 0 i = 2 ∧ x = tp_n (P 1 i) then False
  else if P 0 i = 1 ∧ x = tp_n (P 1 i) then S (tp_n (P 2 i)) c
  else if P 0 i = 5 ∧ x = 6 + tp_n (P 1 i) then S (tp_n (P 2 i)) c
  else S x c
def tp_vS (n : Nat) (P : tp_P) (S : Nat → Nat → Int32 → Prop) : Prop := (∀ x c, S 0 x c → x < 6 ∧ c = 0) ∧ ∀ i q, i < n → tp_nx n P i q → ∀ x c, x < 9 → S q x c → tp_vs P i (S i) x c
def tp_v (n : Nat) (P : tp_P) (q x : Nat) (c : Int32) : Prop := ∃ S, tp_vS n P S ∧ S q x c
/-- the last line before i that writes r, and one; 0 if none does -/
def tp_lw (P : tp_P) : Nat → Nat → Nat
  | 0, _ => 0
  | i + 1, r => if tp_w P i = some r then i + 1 else tp_lw P i r
theorem tp_lw_le (P : tp_P) : ∀ i r, tp_lw P i r ≤ i
  | 0, _ => Nat.le_refl 0
  | i + 1, r => by
    unfold tp_lw
    have := tp_lw_le P i r
    split <;> omega
theorem tp_lw_mono {P Q : tp_P} {n : Nat} (h : ∀ i, i < n → ∀ r, tp_w Q i = some r → tp_w P i = some r) : ∀ i, i ≤ n → ∀ r, tp_lw Q i r ≤ tp_lw P i r := by
  intro i
  induction i with
  | zero => intro _ r; exact Nat.le_refl 0
  | succ i ih =>
    intro hi r
    have h1 := ih (by omega) r
    have h2 := tp_lw_le P i r
    unfold tp_lw
    by_cases a : tp_w Q i = some r
    · rw [if_pos a, if_pos (h i (by omega) r a)]; exact Nat.le_refl _
    · rw [if_neg a]
      split <;> omega
theorem tp_c_lw {n : Nat} {P : tp_P} {S : Nat → Nat → Nat → Prop} (hS : tp_cs n P S) : ∀ i, i ≤ n → ∀ s u, S i s u → tp_lw P i u < tp_lw P i s := by
  intro i
  induction i with
  | zero => intro _ s u h; exact absurd h (hS.1 s u)
  | succ i ih =>
    intro hi s u h
    unfold tp_lw
    rcases hS.2 i (i + 1) hi (Or.inl rfl) s u h with a | a
    · have hw : tp_w P i = some s := by unfold tp_w; rw [if_pos (Or.inr (Or.inl a.1)), a.2.1]
      have hne : ¬ tp_w P i = some u := by rw [hw]; intro e; exact a.2.2.2 (Option.some.inj e)
      rw [if_pos hw, if_neg hne]
      have := tp_lw_le P i u
      omega
    · rw [if_neg a.2.1, if_neg a.2.2]
      exact ih (by omega) s u a.1
theorem tp_c_reg {n : Nat} {P : tp_P} {S : Nat → Nat → Nat → Prop} (hS : tp_cs n P S) (hP : ∀ i, i < n → tp_line P i) : ∀ i, i ≤ n → ∀ s u, S i s u → s < 6 ∧ u < 6 := by
  intro i
  induction i with
  | zero => intro _ s u h; exact absurd h (hS.1 s u)
  | succ i ih =>
    intro hi s u h
    rcases hS.2 i (i + 1) hi (Or.inl rfl) s u h with a | a
    · obtain ⟨h1, h2, h3, -⟩ := hP i (by omega)
      obtain ⟨x, hx, ex⟩ := h2 (by rw [a.1]; decide)
      obtain ⟨y, hy, ey⟩ := h3 (Or.inl a.1)
      rw [← a.2.1, ← a.2.2.1, ex, ey]
      unfold tp_n
      rw [nI_clamp (by omega), nI_clamp (by omega)]
      exact ⟨hx, hy⟩
    · exact ih (by omega) s u a.1
/-- how far a program is from its end -/
noncomputable def tp_m1 (P : tp_P) (i j : Nat) : Nat := @ite _ (tp_rd P i j) (Classical.propDecidable _) (tp_lw P i (tp_n (P j i))) 0
noncomputable def tp_m2 (P : tp_P) (i : Nat) : Nat := if P 0 i = -1 then 0 else 1 + tp_m1 P i 1 + tp_m1 P i 2 + tp_m1 P i 3
noncomputable def tp_m (P : tp_P) : Nat → Nat
  | 0 => 0
  | i + 1 => tp_m P i + tp_m2 P i
theorem tp_m_le {P Q : tp_P} : ∀ n, (∀ i, i < n → tp_m2 Q i ≤ tp_m2 P i) → tp_m Q n ≤ tp_m P n
  | 0, _ => Nat.le_refl 0
  | n + 1, h => by
    have a := tp_m_le n (fun i hi => h i (by omega))
    have b := h n (by omega)
    unfold tp_m
    omega
theorem tp_m_lt {P Q : tp_P} : ∀ n, (∀ i, i < n → tp_m2 Q i ≤ tp_m2 P i) → (∃ i, i < n ∧ tp_m2 Q i < tp_m2 P i) → tp_m Q n < tp_m P n
  | 0, _, h => by obtain ⟨i, hi, -⟩ := h; omega
  | n + 1, h, hx => by
    obtain ⟨i, hi, hl⟩ := hx
    have b := h n (by omega)
    unfold tp_m
    by_cases e : i = n
    · subst e
      have a := tp_m_le i (fun k hk => h k (by omega))
      omega
    · have a := tp_m_lt n (fun k hk => h k (by omega)) ⟨i, by omega, hl⟩
      omega
theorem tp_m_bd (P : tp_P) : ∀ n, n ≤ 16 → tp_m P n ≤ 49 * n
  | 0, _ => Nat.le_refl 0
  | n + 1, h => by
    have a := tp_m_bd P n (by omega)
    have b : ∀ j, tp_m1 P n j ≤ 16 := by
      intro j
      unfold tp_m1
      have := tp_lw_le P n (tp_n (P j n))
      split <;> omega
    have c : tp_m2 P n ≤ 49 := by
      have b1 := b 1; have b2 := b 2; have b3 := b 3
      unfold tp_m2
      split <;> omega
    unfold tp_m
    omega
/-! one round makes it smaller -/
theorem tp_rd0 {P : tp_P} {i : Nat} : ¬ tp_rd P i 0 := by
  rintro (⟨h, -⟩ | ⟨h, -⟩ | ⟨h, -⟩) <;> cases h
theorem tp_rd_congr {P Q : tp_P} {i : Nat} (h : Q 0 i = P 0 i) (j : Nat) : tp_rd Q i j ↔ tp_rd P i j := by unfold tp_rd; rw [h]
theorem tp_p1_0 {n : Nat} {P : tp_P} {i : Nat} : tp_p1 n P 0 i = P 0 i := by
  unfold tp_p1; rw [if_neg (fun h => tp_rd0 h.1)]
theorem tp_p1_no {n : Nat} {P : tp_P} {i j : Nat} (h : ¬ tp_rd P i j) : tp_p1 n P j i = P j i := by
  unfold tp_p1; rw [if_neg (fun q => h q.1)]
/-- a line is emptied by the first half -/
def tp_e1 (n : Nat) (P : tp_P) (i : Nat) : Prop := P 0 i = 1 ∧ tp_p1 n P 1 i = tp_p1 n P 2 i
theorem tp_pass_e {n : Nat} {P : tp_P} {i j : Nat} (hi : i < n) (hj : j < 4) (h : tp_e1 n P i) : tp_pass n P j i = if j = 0 then -1 else 0 := by
  unfold tp_e1 at h; unfold tp_pass; rw [if_pos ⟨hi, hj⟩, if_pos h]
theorem tp_pass_n {n : Nat} {P : tp_P} {i j : Nat} (hi : i < n) (hj : j < 4) (h : ¬ tp_e1 n P i) : tp_pass n P j i = tp_p1 n P j i := by
  unfold tp_e1 at h; unfold tp_pass; rw [if_pos ⟨hi, hj⟩, if_neg h]
theorem tp_pass_0 {n : Nat} {P : tp_P} {i : Nat} (hi : i < n) (h : ¬ tp_e1 n P i) : tp_pass n P 0 i = P 0 i := by rw [tp_pass_n hi (by omega) h, tp_p1_0]
theorem tp_w_none {P : tp_P} {i : Nat} (h : P 0 i = -1) : tp_w P i = none := by
  unfold tp_w; rw [h, if_neg]; decide
theorem tp_w_kind {P : tp_P} {i r : Nat} (h : tp_w P i = some r) : P 0 i = 0 ∨ P 0 i = 1 ∨ P 0 i = 2 := by
  unfold tp_w at h
  by_cases k : P 0 i = 0 ∨ P 0 i = 1 ∨ P 0 i = 2
  · exact k
  · rw [if_neg k] at h; cases h
theorem tp_rd1 {P : tp_P} {i : Nat} (k : P 0 i = 0 ∨ P 0 i = 1 ∨ P 0 i = 2) : ¬ tp_rd P i 1 := by
  rintro (⟨-, h⟩ | ⟨h, -⟩ | ⟨h, -⟩)
  · rcases k with k | k | k <;> rw [k] at h <;> revert h <;> decide
  · cases h
  · cases h
theorem tp_pass_w {n : Nat} {P : tp_P} {i : Nat} (hi : i < n) (r : Nat) (h : tp_w (tp_pass n P) i = some r) : tp_w P i = some r := by
  by_cases e : tp_e1 n P i
  · rw [tp_w_none (by rw [tp_pass_e hi (by omega) e]; rfl)] at h; cases h
  · have k := tp_w_kind h
    rw [tp_pass_0 hi e] at k
    unfold tp_w at h ⊢
    rw [tp_pass_0 hi e, if_pos k] at h
    rw [if_pos k, ← h, tp_pass_n hi (by omega) e, tp_p1_no (tp_rd1 k)]
theorem tp_m1_pass {n : Nat} {P : tp_P} {i j : Nat} (hP : ∀ i, i < n → tp_line P i) (hi : i < n) (hj : j < 4) (e : ¬ tp_e1 n P i) : tp_m1 (tp_pass n P) i j ≤ tp_m1 P i j ∧ (tp_q n P j i → tp_m1 (tp_pass n P) i j < tp_m1 P i j) := by
  have hm := tp_lw_mono (P := P) (Q := tp_pass n P) (n := n) (fun i hi r => tp_pass_w hi r) i (by omega)
  have hr := tp_rd_congr (P := P) (Q := tp_pass n P) (i := i) (tp_pass_0 hi e) j
  unfold tp_m1
  by_cases hd : tp_rd P i j
  · rw [if_pos hd, if_pos (hr.mpr hd), tp_pass_n hi hj e]
    by_cases hq : tp_q n P j i
    · obtain ⟨-, u, S, hS, hu⟩ := id hq
      have e2 : tp_p1 n P j i = nI u := by
        unfold tp_p1; rw [if_pos hq]; exact tp_org_some (by omega) ⟨S, hS, hu⟩
      have hlt := tp_c_lw hS i (by omega) _ _ hu
      have hle := hm (tp_n (tp_p1 n P j i))
      have e3 : tp_n (tp_p1 n P j i) = u := by
        rw [e2]
        exact nI_clamp (by have := (tp_c_reg hS hP i (by omega) _ _ hu).2; omega)
      rw [e3] at hle ⊢
      exact ⟨by omega, fun _ => by omega⟩
    · have e2 : tp_p1 n P j i = P j i := by unfold tp_p1; rw [if_neg hq]
      rw [e2]
      exact ⟨hm _, fun q => absurd q hq⟩
  · rw [if_neg hd, if_neg (fun q => hd (hr.mp q))]
    exact ⟨Nat.le_refl 0, fun q => absurd q.1 hd⟩
theorem tp_m2_pass {n : Nat} {P : tp_P} {i : Nat} (hP : ∀ i, i < n → tp_line P i) (hi : i < n) : tp_m2 (tp_pass n P) i ≤ tp_m2 P i ∧ ((∃ j, j < 4 ∧ tp_q n P j i) ∨ tp_e1 n P i → tp_m2 (tp_pass n P) i < tp_m2 P i) := by
  by_cases e : tp_e1 n P i
  · have a : tp_m2 (tp_pass n P) i = 0 := by unfold tp_m2; rw [tp_pass_e hi (by omega) e]; rfl
    have b : 0 < tp_m2 P i := by
      unfold tp_m2; rw [e.1, if_neg (by decide)]; omega
    exact ⟨by omega, fun _ => by omega⟩
  · have k := tp_pass_0 hi e
    by_cases h0 : P 0 i = -1
    · have a : tp_m2 (tp_pass n P) i = 0 := by unfold tp_m2; rw [k, if_pos h0]
      have b : tp_m2 P i = 0 := by unfold tp_m2; rw [if_pos h0]
      refine ⟨by omega, fun h => ?_⟩
      rcases h with ⟨j, hj, hq⟩ | h
      · exfalso
        rcases hq.1 with ⟨-, h⟩ | ⟨-, h⟩ | ⟨-, h⟩ <;> rw [h0] at h <;> revert h <;> decide
      · exact absurd h e
    · have m1 := tp_m1_pass hP hi (j := 1) (by omega) e
      have m2 := tp_m1_pass hP hi (j := 2) (by omega) e
      have m3 := tp_m1_pass hP hi (j := 3) (by omega) e
      have a : tp_m2 (tp_pass n P) i = 1 + tp_m1 (tp_pass n P) i 1 + tp_m1 (tp_pass n P) i 2 + tp_m1 (tp_pass n P) i 3 := by unfold tp_m2; rw [k, if_neg h0]
      have b : tp_m2 P i = 1 + tp_m1 P i 1 + tp_m1 P i 2 + tp_m1 P i 3 := by unfold tp_m2; rw [if_neg h0]
      refine ⟨by omega, fun h => ?_⟩
      rcases h with ⟨j, hj, hq⟩ | h
      · have : j = 0 ∨ j = 1 ∨ j = 2 ∨ j = 3 := by omega
        rcases this with rfl | rfl | rfl | rfl
        · exact absurd hq.1 tp_rd0
        · have := m1.2 hq; omega
        · have := m2.2 hq; omega
        · have := m3.2 hq; omega
      · exact absurd h e
theorem tp_leave_d {n : Nat} {P : tp_P} {i j : Nat} (hi : i < n) (hj : j < 4) (h : tp_dead n P i) : tp_leave n P j i = if j = 0 then -1 else 0 := by
  unfold tp_leave; rw [if_pos ⟨hi, hj⟩, if_pos h]
theorem tp_leave_n {n : Nat} {P : tp_P} {i j : Nat} (hi : i < n) (hj : j < 4) (h : ¬ tp_dead n P i) : tp_leave n P j i = P j i := by
  unfold tp_leave; rw [if_pos ⟨hi, hj⟩, if_neg h]
theorem tp_w_congr {P Q : tp_P} {i : Nat} (h0 : Q 0 i = P 0 i) (h1 : Q 1 i = P 1 i) : tp_w Q i = tp_w P i := by unfold tp_w; rw [h0, h1]
theorem tp_leave_w {n : Nat} {P : tp_P} {i : Nat} (hi : i < n) (r : Nat) (h : tp_w (tp_leave n P) i = some r) : tp_w P i = some r := by
  by_cases e : tp_dead n P i
  · rw [tp_w_none (by rw [tp_leave_d hi (by omega) e]; rfl)] at h; cases h
  · rw [tp_w_congr (P := P) (tp_leave_n hi (by omega) e) (tp_leave_n hi (by omega) e)] at h; exact h
theorem tp_m2_leave {n : Nat} {P : tp_P} {i : Nat} (hi : i < n) : tp_m2 (tp_leave n P) i ≤ tp_m2 P i ∧ (tp_dead n P i → tp_m2 (tp_leave n P) i < tp_m2 P i) := by
  by_cases e : tp_dead n P i
  · have a : tp_m2 (tp_leave n P) i = 0 := by unfold tp_m2; rw [tp_leave_d hi (by omega) e]; rfl
    have b : 0 < tp_m2 P i := by
      obtain ⟨r, hr, -⟩ := e
      unfold tp_m2
      rcases tp_w_kind hr with k | k | k <;> rw [k, if_neg (by decide)] <;> omega
    exact ⟨by omega, fun _ => by omega⟩
  · refine ⟨?_, fun h => absurd h e⟩
    have hm := tp_lw_mono (P := P) (Q := tp_leave n P) (n := n) (fun i hi r => tp_leave_w hi r) i (by omega)
    have k := tp_leave_n hi (j := 0) (by omega) e
    have m1 : ∀ j, j < 4 → tp_m1 (tp_leave n P) i j ≤ tp_m1 P i j := by
      intro j hj
      have hr := tp_rd_congr (P := P) (Q := tp_leave n P) (i := i) k j
      unfold tp_m1
      by_cases hd : tp_rd P i j
      · rw [if_pos hd, if_pos (hr.mpr hd), tp_leave_n hi hj e]; exact hm _
      · rw [if_neg hd, if_neg (fun q => hd (hr.mp q))]; exact Nat.le_refl 0
    have a1 := m1 1 (by omega); have a2 := m1 2 (by omega); have a3 := m1 3 (by omega)
    unfold tp_m2
    rw [k]
    by_cases h0 : P 0 i = -1
    · rw [if_pos h0, if_pos h0]; exact Nat.le_refl 0
    · rw [if_neg h0, if_neg h0]; omega
/-- every round that changes anything makes it smaller -/
theorem tp_rnd_lt {n : Nat} {P : tp_P} (hP : ∀ i, i < n → tp_line P i) (h : tp_ch n P) : tp_m (tp_leave n (tp_pass n P)) n < tp_m P n := by
  have a := tp_m_le (P := P) (Q := tp_pass n P) n (fun i hi => (tp_m2_pass hP hi).1)
  have b := tp_m_le (P := tp_pass n P) (Q := tp_leave n (tp_pass n P)) n (fun i hi => (tp_m2_leave hi).1)
  rcases h with ⟨i, hi, h⟩ | ⟨i, hi, h⟩
  · have := tp_m_lt (P := P) (Q := tp_pass n P) n (fun i hi => (tp_m2_pass hP hi).1) ⟨i, hi, (tp_m2_pass hP hi).2 h⟩
    omega
  · have := tp_m_lt (P := tp_pass n P) (Q := tp_leave n (tp_pass n P)) n (fun i hi => (tp_m2_leave hi).1) ⟨i, hi, (tp_m2_leave hi).2 h⟩
    omega
/-! what stays in a round: a program's lines are lines; where jumps lead -/
theorem tp_p1_reg {n : Nat} {P : tp_P} {i j : Nat} (hP : ∀ i, i < n → tp_line P i) (hi : i < n) (hr : ∃ a, a < 6 ∧ P j i = nI a) : ∃ a, a < 6 ∧ tp_p1 n P j i = nI a := by
  by_cases hq : tp_q n P j i
  · obtain ⟨-, u, S, hS, hu⟩ := id hq
    refine ⟨u, (tp_c_reg hS hP i (by omega) _ _ hu).2, ?_⟩
    unfold tp_p1; rw [if_pos hq]; exact tp_org_some (by omega) ⟨S, hS, hu⟩
  · unfold tp_p1; rw [if_neg hq]; exact hr
theorem tp_line_empty {P : tp_P} {i : Nat} (h : P 0 i = -1) : tp_line P i := by
  refine ⟨Or.inl h, fun q => absurd h q, fun q => ?_, fun q => ?_, fun q => ?_, fun q => ?_⟩
  · rw [h] at q; exact absurd q (by decide)
  · rw [h] at q; exact absurd q (by decide)
  · rw [h] at q; exact absurd q (by decide)
  · rw [h] at q; exact absurd q (by decide)
theorem tp_line_pass {n : Nat} {P : tp_P} (hP : ∀ i, i < n → tp_line P i) {i : Nat} (hi : i < n) : tp_line (tp_pass n P) i := by
  by_cases e : tp_e1 n P i
  · exact tp_line_empty (by rw [tp_pass_e hi (by omega) e]; rfl)
  · obtain ⟨h0, h1, h2, h3, h4, h5⟩ := hP i hi
    have k := tp_pass_0 hi e
    unfold tp_line
    rw [k, tp_pass_n hi (j := 1) (by omega) e, tp_pass_n hi (j := 2) (by omega) e, tp_pass_n hi (j := 3) (by omega) e]
    refine ⟨h0, fun q => tp_p1_reg hP hi (h1 q), fun q => tp_p1_reg hP hi (h2 q), fun q => ?_, fun q => tp_p1_reg hP hi (h4 q), fun q => ?_⟩
    · rw [tp_p1_no]
      · exact h3 q
      · rintro (⟨h, -⟩ | ⟨-, h⟩ | ⟨h, -⟩)
        · cases h
        · rw [q] at h; revert h; decide
        · cases h
    · rw [tp_p1_no]
      · exact h5 q
      · rintro (⟨-, h⟩ | ⟨h, -⟩ | ⟨h, -⟩)
        · rw [q] at h; revert h; decide
        · cases h
        · cases h
theorem tp_line_leave {n : Nat} {P : tp_P} (hP : ∀ i, i < n → tp_line P i) {i : Nat} (hi : i < n) : tp_line (tp_leave n P) i := by
  by_cases e : tp_dead n P i
  · exact tp_line_empty (by rw [tp_leave_d hi (by omega) e]; rfl)
  · have h := hP i hi
    unfold tp_line at h ⊢
    rw [tp_leave_n hi (j := 0) (by omega) e, tp_leave_n hi (j := 1) (by omega) e, tp_leave_n hi (j := 2) (by omega) e, tp_leave_n hi (j := 3) (by omega) e]
    exact h
theorem tp_tg_pass {n : Nat} {P : tp_P} {i : Nat} (hi : i < n) : tp_tg n (tp_pass n P) i = tp_tg n P i := by
  unfold tp_tg
  by_cases e : tp_e1 n P i
  · rw [tp_pass_e hi (by omega) e, if_neg (by decide), e.1, if_neg (by decide)]
  · rw [tp_pass_0 hi e]
    by_cases h4 : P 0 i = 4
    · rw [if_pos h4, if_pos h4, tp_pass_n hi (by omega) e, tp_p1_no]
      rintro (⟨h, -⟩ | ⟨-, h⟩ | ⟨h, -⟩)
      · cases h
      · rw [h4] at h; revert h; decide
      · cases h
    · rw [if_neg h4, if_neg h4]
theorem tp_tg_leave {n : Nat} {P : tp_P} {i : Nat} (hi : i < n) : tp_tg n (tp_leave n P) i = tp_tg n P i := by
  unfold tp_tg
  by_cases e : tp_dead n P i
  · have : ¬ P 0 i = 4 := by
      obtain ⟨r, hr, -⟩ := e
      rcases tp_w_kind hr with k | k | k <;> rw [k] <;> decide
    rw [tp_leave_d hi (by omega) e, if_neg (by decide), if_neg this]
  · rw [tp_leave_n hi (by omega) e, tp_leave_n hi (by omega) e]
theorem tp_it_line {n : Nat} {P : tp_P} (hP : ∀ i, i < n → tp_line P i) : ∀ k i, i < n → tp_line (tp_it n P k) i
  | 0, i, hi => hP i hi
  | k + 1, i, hi => tp_line_leave (fun _ h => tp_line_pass (tp_it_line hP k) h) hi
theorem tp_it_tg {n : Nat} {P : tp_P} {i : Nat} (hi : i < n) : ∀ k, tp_tg n (tp_it n P k) i = tp_tg n P i
  | 0 => rfl
  | k + 1 => (tp_tg_leave hi).trans ((tp_tg_pass hi).trans (tp_it_tg hi k))
theorem tp_it_m {n : Nat} {P : tp_P} (hP : ∀ i, i < n → tp_line P i) : ∀ k, (∀ j, j < k → tp_ch n (tp_it n P j)) → tp_m (tp_it n P k) n + k ≤ tp_m P n
  | 0, _ => Nat.le_refl _
  | k + 1, h => by
    have a := tp_it_m hP k (fun j hj => h j (by omega))
    have b := tp_rnd_lt (tp_it_line hP k) (h k (by omega))
    show tp_m (tp_leave n (tp_pass n (tp_it n P k))) n + (k + 1) ≤ _
    omega
theorem tp_stop {n : Nat} {P : tp_P} (hn : n ≤ 16) (hP : ∀ i, i < n → tp_line P i) : ∃ k, k ≤ 784 ∧ ¬ tp_ch n (tp_it n P k) ∧ ∀ j, j < k → tp_ch n (tp_it n P j) := by
  have hb := tp_m_bd P n hn
  have hex : ∃ k, ¬ tp_ch n (tp_it n P k) := Classical.byContradiction fun hno => by
    have hall : ∀ k, tp_ch n (tp_it n P k) := fun k => Classical.byContradiction fun q => hno ⟨k, q⟩
    have := tp_it_m hP (tp_m P n + 1) (fun j _ => hall j)
    omega
  obtain ⟨k, h1, h2⟩ := pk_least (fun k => ¬ tp_ch n (tp_it n P k)) hex
  have h3 : ∀ j, j < k → tp_ch n (tp_it n P j) := fun j hj => Classical.byContradiction fun q => h2 j hj q
  have := tp_it_m hP k h3
  exact ⟨k, by omega, h1, h3⟩
def tp_nrm (n : Nat) (P : tp_P) : Prop := ∀ j i, ¬ (i < n ∧ j < 4) → P j i = 0
theorem tp_same {n : Nat} {P : tp_P} (hN : tp_nrm n P) (h : ¬ tp_ch n P) : tp_leave n (tp_pass n P) = P := by
  have h1 : tp_pass n P = P := by
    funext j i
    by_cases hi : i < n ∧ j < 4
    · have e : ¬ tp_e1 n P i := fun e => h (Or.inl ⟨i, hi.1, Or.inr e⟩)
      rw [tp_pass_n hi.1 hi.2 e]
      unfold tp_p1
      rw [if_neg (fun q => h (Or.inl ⟨i, hi.1, Or.inl ⟨j, hi.2, q⟩⟩))]
    · unfold tp_pass; rw [if_neg hi]; exact (hN j i hi).symm
  have h2 : tp_leave n P = P := by
    funext j i
    by_cases hi : i < n ∧ j < 4
    · exact tp_leave_n hi.1 hi.2 (fun e => h (Or.inr ⟨i, hi.1, by rw [h1]; exact e⟩))
    · unfold tp_leave; rw [if_neg hi]; exact (hN j i hi).symm
  rw [h1, h2]
theorem tp_it_nrm {n : Nat} {P : tp_P} (hN : tp_nrm n P) : ∀ k, tp_nrm n (tp_it n P k)
  | 0 => hN
  | k + 1 => fun j i h => by
    show tp_leave n _ j i = 0
    unfold tp_leave; rw [if_neg h]
/-- constants are single -/
theorem tp_v_one {n : Nat} {P : tp_P} (hP : ∀ i, i < n → tp_line P i) : ∀ q, q ≤ n → ∀ x, x < 9 → ∀ c d, tp_v n P q x c → tp_v n P q x d → c = d := by
  intro q
  induction q with
  | zero =>
    intro _ x hx c d ⟨S, hS, h⟩ ⟨S', hS', h'⟩
    rw [(hS.1 x c h).2, (hS'.1 x d h').2]
  | succ q ih =>
    intro hq x hx c d ⟨S, hS, h⟩ ⟨S', hS', h'⟩
    have a := hS.2 q (q + 1) hq (Or.inl rfl) x c hx h
    have b := hS'.2 q (q + 1) hq (Or.inl rfl) x d hx h'
    obtain ⟨h0, h1, h2, h3, h4, h5⟩ := hP q (by omega)
    have two : P 0 q = 1 ∨ P 0 q = 2 ∨ P 0 q = 5 → tp_n (P 2 q) < 9 := by
      intro k
      obtain ⟨y, hy, ey⟩ := h2 k
      rw [ey]; unfold tp_n; rw [nI_clamp (by omega)]; omega
    unfold tp_vs at a b
    by_cases k1 : P 0 q = 0 ∧ x = tp_n (P 1 q)
    · rw [if_pos k1] at a b; rw [a, b]
    · rw [if_neg k1] at a b
      by_cases k2 : P 0 q = 2 ∧ x = tp_n (P 1 q)
      · rw [if_pos k2] at a; exact a.elim
      · rw [if_neg k2] at a b
        by_cases k3 : P 0 q = 1 ∧ x = tp_n (P 1 q)
        · rw [if_pos k3] at a b
          exact ih (by omega) _ (two (Or.inl k3.1)) c d ⟨S, hS, a⟩ ⟨S', hS', b⟩
        · rw [if_neg k3] at a b
          by_cases k4 : P 0 q = 5 ∧ x = 6 + tp_n (P 1 q)
          · rw [if_pos k4] at a b
            exact ih (by omega) _ (two (Or.inr (Or.inr k4.1))) c d ⟨S, hS, a⟩ ⟨S', hS', b⟩
          · rw [if_neg k4] at a b
            exact ih (by omega) x hx c d ⟨S, hS, a⟩ ⟨S', hS', b⟩
end
section
theorem dT_init_0 : decode bT_init 0 = .ok (.aload_n 0, 1) := by decide +kernel
theorem dT_init_1 : decode bT_init 1 = .ok (.invokespecial 3, 3) := by decide +kernel
theorem dT_init_4 : decode bT_init 4 = .ok (.aload_n 0, 1) := by decide +kernel
theorem dT_init_5 : decode bT_init 5 = .ok (.new 9, 3) := by decide +kernel
theorem dT_init_8 : decode bT_init 8 = .ok (.dup, 1) := by decide +kernel
theorem dT_init_9 : decode bT_init 9 = .ok (.invokespecial 11, 3) := by decide +kernel
theorem dT_init_12 : decode bT_init 12 = .ok (.putfield 12, 3) := by decide +kernel
theorem dT_init_15 : decode bT_init 15 = .ok (.aload_n 0, 1) := by decide +kernel
theorem dT_init_16 : decode bT_init 16 = .ok (.new 9, 3) := by decide +kernel
theorem dT_init_19 : decode bT_init 19 = .ok (.dup, 1) := by decide +kernel
theorem dT_init_20 : decode bT_init 20 = .ok (.invokespecial 11, 3) := by decide +kernel
theorem dT_init_23 : decode bT_init 23 = .ok (.putfield 16, 3) := by decide +kernel
theorem dT_init_26 : decode bT_init 26 = .ok (.aload_n 0, 1) := by decide +kernel
theorem dT_init_27 : decode bT_init 27 = .ok (.new 19, 3) := by decide +kernel
theorem dT_init_30 : decode bT_init 30 = .ok (.dup, 1) := by decide +kernel
theorem dT_init_31 : decode bT_init 31 = .ok (.invokespecial 21, 3) := by decide +kernel
theorem dT_init_34 : decode bT_init 34 = .ok (.putfield 22, 3) := by decide +kernel
theorem dT_init_37 : decode bT_init 37 = .ok (.aload_n 0, 1) := by decide +kernel
theorem dT_init_38 : decode bT_init 38 = .ok (.new 26, 3) := by decide +kernel
theorem dT_init_41 : decode bT_init 41 = .ok (.dup, 1) := by decide +kernel
theorem dT_init_42 : decode bT_init 42 = .ok (.invokespecial 28, 3) := by decide +kernel
theorem dT_init_45 : decode bT_init 45 = .ok (.putfield 29, 3) := by decide +kernel
theorem dT_init_48 : decode bT_init 48 = .ok (.aload_n 0, 1) := by decide +kernel
theorem dT_init_49 : decode bT_init 49 = .ok (.new 33, 3) := by decide +kernel
theorem dT_init_52 : decode bT_init 52 = .ok (.dup, 1) := by decide +kernel
theorem dT_init_53 : decode bT_init 53 = .ok (.invokespecial 35, 3) := by decide +kernel
theorem dT_init_56 : decode bT_init 56 = .ok (.putfield 36, 3) := by decide +kernel
theorem dT_init_59 : decode bT_init 59 = .ok (.aload_n 0, 1) := by decide +kernel
theorem dT_init_60 : decode bT_init 60 = .ok (.iconst 0, 1) := by decide +kernel
theorem dT_init_61 : decode bT_init 61 = .ok (.putfield 40, 3) := by decide +kernel
theorem dT_init_64 : decode bT_init 64 = .ok (.return_, 1) := by decide +kernel
theorem dC_init_0 : decode bC_init 0 = .ok (.aload_n 0, 1) := by decide +kernel
theorem dC_init_1 : decode bC_init 1 = .ok (.invokespecial 3, 3) := by decide +kernel
theorem dC_init_4 : decode bC_init 4 = .ok (.aload_n 0, 1) := by decide +kernel
theorem dC_init_5 : decode bC_init 5 = .ok (.iconst 4, 1) := by decide +kernel
theorem dC_init_6 : decode bC_init 6 = .ok (.bipush 16, 2) := by decide +kernel
theorem dC_init_8 : decode bC_init 8 = .ok (.multianewarray 9 2, 4) := by decide +kernel
theorem dC_init_12 : decode bC_init 12 = .ok (.putfield 11, 3) := by decide +kernel
theorem dC_init_15 : decode bC_init 15 = .ok (.aload_n 0, 1) := by decide +kernel
theorem dC_init_16 : decode bC_init 16 = .ok (.iconst 0, 1) := by decide +kernel
theorem dC_init_17 : decode bC_init 17 = .ok (.putfield 16, 3) := by decide +kernel
theorem dC_init_20 : decode bC_init 20 = .ok (.return_, 1) := by decide +kernel
theorem dS_init_0 : decode bS_init 0 = .ok (.aload_n 0, 1) := by decide +kernel
theorem dS_init_1 : decode bS_init 1 = .ok (.invokespecial 3, 3) := by decide +kernel
theorem dS_init_4 : decode bS_init 4 = .ok (.aload_n 0, 1) := by decide +kernel
theorem dS_init_5 : decode bS_init 5 = .ok (.new 9, 3) := by decide +kernel
theorem dS_init_8 : decode bS_init 8 = .ok (.dup, 1) := by decide +kernel
theorem dS_init_9 : decode bS_init 9 = .ok (.invokespecial 11, 3) := by decide +kernel
theorem dS_init_12 : decode bS_init 12 = .ok (.putfield 12, 3) := by decide +kernel
theorem dS_init_15 : decode bS_init 15 = .ok (.aload_n 0, 1) := by decide +kernel
theorem dS_init_16 : decode bS_init 16 = .ok (.bipush 17, 2) := by decide +kernel
theorem dS_init_18 : decode bS_init 18 = .ok (.newarray .int, 2) := by decide +kernel
theorem dS_init_20 : decode bS_init 20 = .ok (.putfield 18, 3) := by decide +kernel
theorem dS_init_23 : decode bS_init 23 = .ok (.return_, 1) := by decide +kernel
theorem dP_init_0 : decode bP_init 0 = .ok (.aload_n 0, 1) := by decide +kernel
theorem dP_init_1 : decode bP_init 1 = .ok (.invokespecial 3, 3) := by decide +kernel
theorem dP_init_4 : decode bP_init 4 = .ok (.aload_n 0, 1) := by decide +kernel
theorem dP_init_5 : decode bP_init 5 = .ok (.bipush 6, 2) := by decide +kernel
theorem dP_init_7 : decode bP_init 7 = .ok (.bipush 17, 2) := by decide +kernel
theorem dP_init_9 : decode bP_init 9 = .ok (.multianewarray 9 2, 4) := by decide +kernel
theorem dP_init_13 : decode bP_init 13 = .ok (.putfield 11, 3) := by decide +kernel
theorem dP_init_16 : decode bP_init 16 = .ok (.aload_n 0, 1) := by decide +kernel
theorem dP_init_17 : decode bP_init 17 = .ok (.bipush 6, 2) := by decide +kernel
theorem dP_init_19 : decode bP_init 19 = .ok (.newarray .int, 2) := by decide +kernel
theorem dP_init_21 : decode bP_init 21 = .ok (.putfield 16, 3) := by decide +kernel
theorem dP_init_24 : decode bP_init 24 = .ok (.return_, 1) := by decide +kernel
theorem dF_init_0 : decode bF_init 0 = .ok (.aload_n 0, 1) := by decide +kernel
theorem dF_init_1 : decode bF_init 1 = .ok (.invokespecial 3, 3) := by decide +kernel
theorem dF_init_4 : decode bF_init 4 = .ok (.return_, 1) := by decide +kernel
theorem dK_init_0 : decode bK_init 0 = .ok (.aload_n 0, 1) := by decide +kernel
theorem dK_init_1 : decode bK_init 1 = .ok (.invokespecial 3, 3) := by decide +kernel
theorem dK_init_4 : decode bK_init 4 = .ok (.aload_n 0, 1) := by decide +kernel
theorem dK_init_5 : decode bK_init 5 = .ok (.bipush 9, 2) := by decide +kernel
theorem dK_init_7 : decode bK_init 7 = .ok (.bipush 17, 2) := by decide +kernel
theorem dK_init_9 : decode bK_init 9 = .ok (.multianewarray 11 2, 4) := by decide +kernel
theorem dK_init_13 : decode bK_init 13 = .ok (.putfield 13, 3) := by decide +kernel
theorem dK_init_16 : decode bK_init 16 = .ok (.aload_n 0, 1) := by decide +kernel
theorem dK_init_17 : decode bK_init 17 = .ok (.bipush 9, 2) := by decide +kernel
theorem dK_init_19 : decode bK_init 19 = .ok (.bipush 17, 2) := by decide +kernel
theorem dK_init_21 : decode bK_init 21 = .ok (.multianewarray 11 2, 4) := by decide +kernel
theorem dK_init_25 : decode bK_init 25 = .ok (.putfield 16, 3) := by decide +kernel
theorem dK_init_28 : decode bK_init 28 = .ok (.aload_n 0, 1) := by decide +kernel
theorem dK_init_29 : decode bK_init 29 = .ok (.bipush 9, 2) := by decide +kernel
theorem dK_init_31 : decode bK_init 31 = .ok (.newarray .int, 2) := by decide +kernel
theorem dK_init_33 : decode bK_init 33 = .ok (.putfield 19, 3) := by decide +kernel
theorem dK_init_36 : decode bK_init 36 = .ok (.aload_n 0, 1) := by decide +kernel
theorem dK_init_37 : decode bK_init 37 = .ok (.bipush 9, 2) := by decide +kernel
theorem dK_init_39 : decode bK_init 39 = .ok (.newarray .int, 2) := by decide +kernel
theorem dK_init_41 : decode bK_init 41 = .ok (.putfield 23, 3) := by decide +kernel
theorem dK_init_44 : decode bK_init 44 = .ok (.return_, 1) := by decide +kernel
theorem dR_init_0 : decode bR_init 0 = .ok (.aload_n 0, 1) := by decide +kernel
theorem dR_init_1 : decode bR_init 1 = .ok (.invokespecial 3, 3) := by decide +kernel
theorem dR_init_4 : decode bR_init 4 = .ok (.aload_n 0, 1) := by decide +kernel
theorem dR_init_5 : decode bR_init 5 = .ok (.new 9, 3) := by decide +kernel
theorem dR_init_8 : decode bR_init 8 = .ok (.dup, 1) := by decide +kernel
theorem dR_init_9 : decode bR_init 9 = .ok (.invokespecial 11, 3) := by decide +kernel
theorem dR_init_12 : decode bR_init 12 = .ok (.putfield 12, 3) := by decide +kernel
theorem dR_init_15 : decode bR_init 15 = .ok (.aload_n 0, 1) := by decide +kernel
theorem dR_init_16 : decode bR_init 16 = .ok (.new 9, 3) := by decide +kernel
theorem dR_init_19 : decode bR_init 19 = .ok (.dup, 1) := by decide +kernel
theorem dR_init_20 : decode bR_init 20 = .ok (.invokespecial 11, 3) := by decide +kernel
theorem dR_init_23 : decode bR_init 23 = .ok (.putfield 18, 3) := by decide +kernel
theorem dR_init_26 : decode bR_init 26 = .ok (.aload_n 0, 1) := by decide +kernel
theorem dR_init_27 : decode bR_init 27 = .ok (.iconst 3, 1) := by decide +kernel
theorem dR_init_28 : decode bR_init 28 = .ok (.newarray .int, 2) := by decide +kernel
theorem dR_init_30 : decode bR_init 30 = .ok (.putfield 21, 3) := by decide +kernel
theorem dR_init_33 : decode bR_init 33 = .ok (.aload_n 0, 1) := by decide +kernel
theorem dR_init_34 : decode bR_init 34 = .ok (.iconst 3, 1) := by decide +kernel
theorem dR_init_35 : decode bR_init 35 = .ok (.newarray .boolean, 2) := by decide +kernel
theorem dR_init_37 : decode bR_init 37 = .ok (.putfield 25, 3) := by decide +kernel
theorem dR_init_40 : decode bR_init 40 = .ok (.aload_n 0, 1) := by decide +kernel
theorem dR_init_41 : decode bR_init 41 = .ok (.iconst 0, 1) := by decide +kernel
theorem dR_init_42 : decode bR_init 42 = .ok (.putfield 29, 3) := by decide +kernel
theorem dR_init_45 : decode bR_init 45 = .ok (.aload_n 0, 1) := by decide +kernel
theorem dR_init_46 : decode bR_init 46 = .ok (.iconst 0, 1) := by decide +kernel
theorem dR_init_47 : decode bR_init 47 = .ok (.putfield 33, 3) := by decide +kernel
theorem dR_init_50 : decode bR_init 50 = .ok (.return_, 1) := by decide +kernel
theorem dM_init_0 : decode bM_init 0 = .ok (.aload_n 0, 1) := by decide +kernel
theorem dM_init_1 : decode bM_init 1 = .ok (.invokespecial 3, 3) := by decide +kernel
theorem dM_init_4 : decode bM_init 4 = .ok (.aload_n 0, 1) := by decide +kernel
theorem dM_init_5 : decode bM_init 5 = .ok (.bipush 6, 2) := by decide +kernel
theorem dM_init_7 : decode bM_init 7 = .ok (.newarray .int, 2) := by decide +kernel
theorem dM_init_9 : decode bM_init 9 = .ok (.putfield 9, 3) := by decide +kernel
theorem dM_init_12 : decode bM_init 12 = .ok (.aload_n 0, 1) := by decide +kernel
theorem dM_init_13 : decode bM_init 13 = .ok (.sipush 200, 3) := by decide +kernel
theorem dM_init_16 : decode bM_init 16 = .ok (.newarray .int, 2) := by decide +kernel
theorem dM_init_18 : decode bM_init 18 = .ok (.putfield 15, 3) := by decide +kernel
theorem dM_init_21 : decode bM_init 21 = .ok (.aload_n 0, 1) := by decide +kernel
theorem dM_init_22 : decode bM_init 22 = .ok (.iconst 0, 1) := by decide +kernel
theorem dM_init_23 : decode bM_init 23 = .ok (.putfield 18, 3) := by decide +kernel
theorem dM_init_26 : decode bM_init 26 = .ok (.return_, 1) := by decide +kernel
theorem dT_clear_0 : decode bT_clear 0 = .ok (.aload_n 0, 1) := by decide +kernel
theorem dT_clear_1 : decode bT_clear 1 = .ok (.getfield 12, 3) := by decide +kernel
theorem dT_clear_4 : decode bT_clear 4 = .ok (.invokevirtual 63, 3) := by decide +kernel
theorem dT_clear_7 : decode bT_clear 7 = .ok (.aload_n 0, 1) := by decide +kernel
theorem dT_clear_8 : decode bT_clear 8 = .ok (.iconst 0, 1) := by decide +kernel
theorem dT_clear_9 : decode bT_clear 9 = .ok (.putfield 40, 3) := by decide +kernel
theorem dT_clear_12 : decode bT_clear 12 = .ok (.return_, 1) := by decide +kernel
theorem dC_dropLines_0 : decode bC_dropLines 0 = .ok (.aload_n 0, 1) := by decide +kernel
theorem dC_dropLines_1 : decode bC_dropLines 1 = .ok (.iconst 0, 1) := by decide +kernel
theorem dC_dropLines_2 : decode bC_dropLines 2 = .ok (.putfield 16, 3) := by decide +kernel
theorem dC_dropLines_5 : decode bC_dropLines 5 = .ok (.return_, 1) := by decide +kernel
theorem dT_shorten_0 : decode bT_shorten 0 = .ok (.aload_n 0, 1) := by decide +kernel
theorem dT_shorten_1 : decode bT_shorten 1 = .ok (.getfield 16, 3) := by decide +kernel
theorem dT_shorten_4 : decode bT_shorten 4 = .ok (.aload_n 0, 1) := by decide +kernel
theorem dT_shorten_5 : decode bT_shorten 5 = .ok (.getfield 12, 3) := by decide +kernel
theorem dT_shorten_8 : decode bT_shorten 8 = .ok (.invokevirtual 66, 3) := by decide +kernel
theorem dT_shorten_11 : decode bT_shorten 11 = .ok (.aload_n 0, 1) := by decide +kernel
theorem dT_shorten_12 : decode bT_shorten 12 = .ok (.getfield 22, 3) := by decide +kernel
theorem dT_shorten_15 : decode bT_shorten 15 = .ok (.aload_n 0, 1) := by decide +kernel
theorem dT_shorten_16 : decode bT_shorten 16 = .ok (.getfield 16, 3) := by decide +kernel
theorem dT_shorten_19 : decode bT_shorten 19 = .ok (.invokevirtual 70, 3) := by decide +kernel
theorem dT_shorten_22 : decode bT_shorten 22 = .ok (.istore_n 1, 1) := by decide +kernel
theorem dT_shorten_23 : decode bT_shorten 23 = .ok (.aload_n 0, 1) := by decide +kernel
theorem dT_shorten_24 : decode bT_shorten 24 = .ok (.getfield 29, 3) := by decide +kernel
theorem dT_shorten_27 : decode bT_shorten 27 = .ok (.aload_n 0, 1) := by decide +kernel
theorem dT_shorten_28 : decode bT_shorten 28 = .ok (.getfield 12, 3) := by decide +kernel
theorem dT_shorten_31 : decode bT_shorten 31 = .ok (.aload_n 0, 1) := by decide +kernel
theorem dT_shorten_32 : decode bT_shorten 32 = .ok (.getfield 16, 3) := by decide +kernel
theorem dT_shorten_35 : decode bT_shorten 35 = .ok (.invokevirtual 74, 3) := by decide +kernel
theorem dT_shorten_38 : decode bT_shorten 38 = .ok (.aload_n 0, 1) := by decide +kernel
theorem dT_shorten_39 : decode bT_shorten 39 = .ok (.getfield 36, 3) := by decide +kernel
theorem dT_shorten_42 : decode bT_shorten 42 = .ok (.invokevirtual 78, 3) := by decide +kernel
theorem dT_shorten_45 : decode bT_shorten 45 = .ok (.aload_n 0, 1) := by decide +kernel
theorem dT_shorten_46 : decode bT_shorten 46 = .ok (.iconst 1, 1) := by decide +kernel
theorem dT_shorten_47 : decode bT_shorten 47 = .ok (.putfield 40, 3) := by decide +kernel
theorem dT_shorten_50 : decode bT_shorten 50 = .ok (.iload_n 1, 1) := by decide +kernel
theorem dT_shorten_51 : decode bT_shorten 51 = .ok (.ireturn, 1) := by decide +kernel
theorem dC_takeLines_0 : decode bC_takeLines 0 = .ok (.aload_n 0, 1) := by decide +kernel
theorem dC_takeLines_1 : decode bC_takeLines 1 = .ok (.aload_n 1, 1) := by decide +kernel
theorem dC_takeLines_2 : decode bC_takeLines 2 = .ok (.getfield 16, 3) := by decide +kernel
theorem dC_takeLines_5 : decode bC_takeLines 5 = .ok (.putfield 16, 3) := by decide +kernel
theorem dC_takeLines_8 : decode bC_takeLines 8 = .ok (.iconst 0, 1) := by decide +kernel
theorem dC_takeLines_9 : decode bC_takeLines 9 = .ok (.istore_n 2, 1) := by decide +kernel
theorem dC_takeLines_10 : decode bC_takeLines 10 = .ok (.iload_n 2, 1) := by decide +kernel
theorem dC_takeLines_11 : decode bC_takeLines 11 = .ok (.iconst 4, 1) := by decide +kernel
theorem dC_takeLines_12 : decode bC_takeLines 12 = .ok (.if_icmp .ge 30, 3) := by decide +kernel
theorem dC_takeLines_15 : decode bC_takeLines 15 = .ok (.aload_n 1, 1) := by decide +kernel
theorem dC_takeLines_16 : decode bC_takeLines 16 = .ok (.getfield 11, 3) := by decide +kernel
theorem dC_takeLines_19 : decode bC_takeLines 19 = .ok (.iload_n 2, 1) := by decide +kernel
theorem dC_takeLines_20 : decode bC_takeLines 20 = .ok (.aaload, 1) := by decide +kernel
theorem dC_takeLines_21 : decode bC_takeLines 21 = .ok (.iconst 0, 1) := by decide +kernel
theorem dC_takeLines_22 : decode bC_takeLines 22 = .ok (.aload_n 0, 1) := by decide +kernel
theorem dC_takeLines_23 : decode bC_takeLines 23 = .ok (.getfield 11, 3) := by decide +kernel
theorem dC_takeLines_26 : decode bC_takeLines 26 = .ok (.iload_n 2, 1) := by decide +kernel
theorem dC_takeLines_27 : decode bC_takeLines 27 = .ok (.aaload, 1) := by decide +kernel
theorem dC_takeLines_28 : decode bC_takeLines 28 = .ok (.iconst 0, 1) := by decide +kernel
theorem dC_takeLines_29 : decode bC_takeLines 29 = .ok (.aload_n 0, 1) := by decide +kernel
theorem dC_takeLines_30 : decode bC_takeLines 30 = .ok (.getfield 16, 3) := by decide +kernel
theorem dC_takeLines_33 : decode bC_takeLines 33 = .ok (.invokestatic 20, 3) := by decide +kernel
theorem dC_takeLines_36 : decode bC_takeLines 36 = .ok (.iinc 2 1, 3) := by decide +kernel
theorem dC_takeLines_39 : decode bC_takeLines 39 = .ok (.goto (-29), 3) := by decide +kernel
theorem dC_takeLines_42 : decode bC_takeLines 42 = .ok (.return_, 1) := by decide +kernel
theorem dS_changingRounds_0 : decode bS_changingRounds 0 = .ok (.iconst 0, 1) := by decide +kernel
theorem dS_changingRounds_1 : decode bS_changingRounds 1 = .ok (.istore_n 2, 1) := by decide +kernel
theorem dS_changingRounds_2 : decode bS_changingRounds 2 = .ok (.iconst 1, 1) := by decide +kernel
theorem dS_changingRounds_3 : decode bS_changingRounds 3 = .ok (.istore_n 3, 1) := by decide +kernel
theorem dS_changingRounds_4 : decode bS_changingRounds 4 = .ok (.iload_n 3, 1) := by decide +kernel
theorem dS_changingRounds_5 : decode bS_changingRounds 5 = .ok (.ifCond .eq 49, 3) := by decide +kernel
theorem dS_changingRounds_8 : decode bS_changingRounds 8 = .ok (.iload_n 2, 1) := by decide +kernel
theorem dS_changingRounds_9 : decode bS_changingRounds 9 = .ok (.ldc 22, 2) := by decide +kernel
theorem dS_changingRounds_11 : decode bS_changingRounds 11 = .ok (.if_icmp .ge 43, 3) := by decide +kernel
theorem dS_changingRounds_14 : decode bS_changingRounds 14 = .ok (.aload_n 0, 1) := by decide +kernel
theorem dS_changingRounds_15 : decode bS_changingRounds 15 = .ok (.aload_n 1, 1) := by decide +kernel
theorem dS_changingRounds_16 : decode bS_changingRounds 16 = .ok (.invokevirtual 23, 3) := by decide +kernel
theorem dS_changingRounds_19 : decode bS_changingRounds 19 = .ok (.istore 4, 2) := by decide +kernel
theorem dS_changingRounds_21 : decode bS_changingRounds 21 = .ok (.aload_n 0, 1) := by decide +kernel
theorem dS_changingRounds_22 : decode bS_changingRounds 22 = .ok (.aload_n 1, 1) := by decide +kernel
theorem dS_changingRounds_23 : decode bS_changingRounds 23 = .ok (.invokevirtual 27, 3) := by decide +kernel
theorem dS_changingRounds_26 : decode bS_changingRounds 26 = .ok (.istore 5, 2) := by decide +kernel
theorem dS_changingRounds_28 : decode bS_changingRounds 28 = .ok (.iload 4, 2) := by decide +kernel
theorem dS_changingRounds_30 : decode bS_changingRounds 30 = .ok (.ifCond .ne 8, 3) := by decide +kernel
theorem dS_changingRounds_33 : decode bS_changingRounds 33 = .ok (.iload 5, 2) := by decide +kernel
theorem dS_changingRounds_35 : decode bS_changingRounds 35 = .ok (.ifCond .eq 7, 3) := by decide +kernel
theorem dS_changingRounds_38 : decode bS_changingRounds 38 = .ok (.iconst 1, 1) := by decide +kernel
theorem dS_changingRounds_39 : decode bS_changingRounds 39 = .ok (.goto 4, 3) := by decide +kernel
theorem dS_changingRounds_42 : decode bS_changingRounds 42 = .ok (.iconst 0, 1) := by decide +kernel
theorem dS_changingRounds_43 : decode bS_changingRounds 43 = .ok (.istore_n 3, 1) := by decide +kernel
theorem dS_changingRounds_44 : decode bS_changingRounds 44 = .ok (.iload_n 3, 1) := by decide +kernel
theorem dS_changingRounds_45 : decode bS_changingRounds 45 = .ok (.ifCond .eq 6, 3) := by decide +kernel
theorem dS_changingRounds_48 : decode bS_changingRounds 48 = .ok (.iinc 2 1, 3) := by decide +kernel
theorem dS_changingRounds_51 : decode bS_changingRounds 51 = .ok (.goto (-47), 3) := by decide +kernel
theorem dS_changingRounds_54 : decode bS_changingRounds 54 = .ok (.iload_n 2, 1) := by decide +kernel
theorem dS_changingRounds_55 : decode bS_changingRounds 55 = .ok (.ireturn, 1) := by decide +kernel
theorem dS_passCopiesOn_0 : decode bS_passCopiesOn 0 = .ok (.aload_n 0, 1) := by decide +kernel
theorem dS_passCopiesOn_1 : decode bS_passCopiesOn 1 = .ok (.getfield 12, 3) := by decide +kernel
theorem dS_passCopiesOn_4 : decode bS_passCopiesOn 4 = .ok (.aload_n 1, 1) := by decide +kernel
theorem dS_passCopiesOn_5 : decode bS_passCopiesOn 5 = .ok (.invokevirtual 30, 3) := by decide +kernel
theorem dS_passCopiesOn_8 : decode bS_passCopiesOn 8 = .ok (.iconst 0, 1) := by decide +kernel
theorem dS_passCopiesOn_9 : decode bS_passCopiesOn 9 = .ok (.istore_n 2, 1) := by decide +kernel
theorem dS_passCopiesOn_10 : decode bS_passCopiesOn 10 = .ok (.iconst 0, 1) := by decide +kernel
theorem dS_passCopiesOn_11 : decode bS_passCopiesOn 11 = .ok (.istore_n 3, 1) := by decide +kernel
theorem dS_passCopiesOn_12 : decode bS_passCopiesOn 12 = .ok (.iload_n 3, 1) := by decide +kernel
theorem dS_passCopiesOn_13 : decode bS_passCopiesOn 13 = .ok (.aload_n 1, 1) := by decide +kernel
theorem dS_passCopiesOn_14 : decode bS_passCopiesOn 14 = .ok (.invokevirtual 34, 3) := by decide +kernel
theorem dS_passCopiesOn_17 : decode bS_passCopiesOn 17 = .ok (.if_icmp .ge 66, 3) := by decide +kernel
theorem dS_passCopiesOn_20 : decode bS_passCopiesOn 20 = .ok (.iconst 1, 1) := by decide +kernel
theorem dS_passCopiesOn_21 : decode bS_passCopiesOn 21 = .ok (.istore 4, 2) := by decide +kernel
theorem dS_passCopiesOn_23 : decode bS_passCopiesOn 23 = .ok (.iload 4, 2) := by decide +kernel
theorem dS_passCopiesOn_25 : decode bS_passCopiesOn 25 = .ok (.iconst 4, 1) := by decide +kernel
theorem dS_passCopiesOn_26 : decode bS_passCopiesOn 26 = .ok (.if_icmp .ge 20, 3) := by decide +kernel
theorem dS_passCopiesOn_29 : decode bS_passCopiesOn 29 = .ok (.iload_n 2, 1) := by decide +kernel
theorem dS_passCopiesOn_30 : decode bS_passCopiesOn 30 = .ok (.aload_n 0, 1) := by decide +kernel
theorem dS_passCopiesOn_31 : decode bS_passCopiesOn 31 = .ok (.aload_n 1, 1) := by decide +kernel
theorem dS_passCopiesOn_32 : decode bS_passCopiesOn 32 = .ok (.iload_n 3, 1) := by decide +kernel
theorem dS_passCopiesOn_33 : decode bS_passCopiesOn 33 = .ok (.iload 4, 2) := by decide +kernel
theorem dS_passCopiesOn_35 : decode bS_passCopiesOn 35 = .ok (.invokevirtual 40, 3) := by decide +kernel
theorem dS_passCopiesOn_38 : decode bS_passCopiesOn 38 = .ok (.ior, 1) := by decide +kernel
theorem dS_passCopiesOn_39 : decode bS_passCopiesOn 39 = .ok (.istore_n 2, 1) := by decide +kernel
theorem dS_passCopiesOn_40 : decode bS_passCopiesOn 40 = .ok (.iinc 4 1, 3) := by decide +kernel
theorem dS_passCopiesOn_43 : decode bS_passCopiesOn 43 = .ok (.goto (-20), 3) := by decide +kernel
theorem dS_passCopiesOn_46 : decode bS_passCopiesOn 46 = .ok (.aload_n 1, 1) := by decide +kernel
theorem dS_passCopiesOn_47 : decode bS_passCopiesOn 47 = .ok (.iload_n 3, 1) := by decide +kernel
theorem dS_passCopiesOn_48 : decode bS_passCopiesOn 48 = .ok (.invokevirtual 44, 3) := by decide +kernel
theorem dS_passCopiesOn_51 : decode bS_passCopiesOn 51 = .ok (.iconst 1, 1) := by decide +kernel
theorem dS_passCopiesOn_52 : decode bS_passCopiesOn 52 = .ok (.if_icmp .ne 25, 3) := by decide +kernel
theorem dS_passCopiesOn_55 : decode bS_passCopiesOn 55 = .ok (.aload_n 1, 1) := by decide +kernel
theorem dS_passCopiesOn_56 : decode bS_passCopiesOn 56 = .ok (.iload_n 3, 1) := by decide +kernel
theorem dS_passCopiesOn_57 : decode bS_passCopiesOn 57 = .ok (.iconst 1, 1) := by decide +kernel
theorem dS_passCopiesOn_58 : decode bS_passCopiesOn 58 = .ok (.invokevirtual 48, 3) := by decide +kernel
theorem dS_passCopiesOn_61 : decode bS_passCopiesOn 61 = .ok (.aload_n 1, 1) := by decide +kernel
theorem dS_passCopiesOn_62 : decode bS_passCopiesOn 62 = .ok (.iload_n 3, 1) := by decide +kernel
theorem dS_passCopiesOn_63 : decode bS_passCopiesOn 63 = .ok (.iconst 2, 1) := by decide +kernel
theorem dS_passCopiesOn_64 : decode bS_passCopiesOn 64 = .ok (.invokevirtual 48, 3) := by decide +kernel
theorem dS_passCopiesOn_67 : decode bS_passCopiesOn 67 = .ok (.if_icmp .ne 10, 3) := by decide +kernel
theorem dS_passCopiesOn_70 : decode bS_passCopiesOn 70 = .ok (.aload_n 1, 1) := by decide +kernel
theorem dS_passCopiesOn_71 : decode bS_passCopiesOn 71 = .ok (.iload_n 3, 1) := by decide +kernel
theorem dS_passCopiesOn_72 : decode bS_passCopiesOn 72 = .ok (.invokevirtual 52, 3) := by decide +kernel
theorem dS_passCopiesOn_75 : decode bS_passCopiesOn 75 = .ok (.iconst 1, 1) := by decide +kernel
theorem dS_passCopiesOn_76 : decode bS_passCopiesOn 76 = .ok (.istore_n 2, 1) := by decide +kernel
theorem dS_passCopiesOn_77 : decode bS_passCopiesOn 77 = .ok (.iinc 3 1, 3) := by decide +kernel
theorem dS_passCopiesOn_80 : decode bS_passCopiesOn 80 = .ok (.goto (-68), 3) := by decide +kernel
theorem dS_passCopiesOn_83 : decode bS_passCopiesOn 83 = .ok (.iload_n 2, 1) := by decide +kernel
theorem dS_passCopiesOn_84 : decode bS_passCopiesOn 84 = .ok (.ireturn, 1) := by decide +kernel
theorem dP_find_0 : decode bP_find 0 = .ok (.iconst 0, 1) := by decide +kernel
theorem dP_find_1 : decode bP_find 1 = .ok (.istore_n 2, 1) := by decide +kernel
theorem dP_find_2 : decode bP_find 2 = .ok (.iload_n 2, 1) := by decide +kernel
theorem dP_find_3 : decode bP_find 3 = .ok (.bipush 6, 2) := by decide +kernel
theorem dP_find_5 : decode bP_find 5 = .ok (.if_icmp .ge 18, 3) := by decide +kernel
theorem dP_find_8 : decode bP_find 8 = .ok (.aload_n 0, 1) := by decide +kernel
theorem dP_find_9 : decode bP_find 9 = .ok (.getfield 11, 3) := by decide +kernel
theorem dP_find_12 : decode bP_find 12 = .ok (.iload_n 2, 1) := by decide +kernel
theorem dP_find_13 : decode bP_find 13 = .ok (.aaload, 1) := by decide +kernel
theorem dP_find_14 : decode bP_find 14 = .ok (.iconst 0, 1) := by decide +kernel
theorem dP_find_15 : decode bP_find 15 = .ok (.iconst (-1), 1) := by decide +kernel
theorem dP_find_16 : decode bP_find 16 = .ok (.iastore, 1) := by decide +kernel
theorem dP_find_17 : decode bP_find 17 = .ok (.iinc 2 1, 3) := by decide +kernel
theorem dP_find_20 : decode bP_find 20 = .ok (.goto (-18), 3) := by decide +kernel
theorem dP_find_23 : decode bP_find 23 = .ok (.aload_n 0, 1) := by decide +kernel
theorem dP_find_24 : decode bP_find 24 = .ok (.aload_n 1, 1) := by decide +kernel
theorem dP_find_25 : decode bP_find 25 = .ok (.aload_n 1, 1) := by decide +kernel
theorem dP_find_26 : decode bP_find 26 = .ok (.invokevirtual 20, 3) := by decide +kernel
theorem dP_find_29 : decode bP_find 29 = .ok (.return_, 1) := by decide +kernel
theorem dF_settle_0 : decode bF_settle 0 = .ok (.iconst 0, 1) := by decide +kernel
theorem dF_settle_1 : decode bF_settle 1 = .ok (.istore_n 3, 1) := by decide +kernel
theorem dF_settle_2 : decode bF_settle 2 = .ok (.iload_n 3, 1) := by decide +kernel
theorem dF_settle_3 : decode bF_settle 3 = .ok (.aload_n 2, 1) := by decide +kernel
theorem dF_settle_4 : decode bF_settle 4 = .ok (.invokevirtual 9, 3) := by decide +kernel
theorem dF_settle_7 : decode bF_settle 7 = .ok (.if_icmp .ge 23, 3) := by decide +kernel
theorem dF_settle_10 : decode bF_settle 10 = .ok (.aload_n 0, 1) := by decide +kernel
theorem dF_settle_11 : decode bF_settle 11 = .ok (.aload_n 1, 1) := by decide +kernel
theorem dF_settle_12 : decode bF_settle 12 = .ok (.aload_n 2, 1) := by decide +kernel
theorem dF_settle_13 : decode bF_settle 13 = .ok (.iload_n 3, 1) := by decide +kernel
theorem dF_settle_14 : decode bF_settle 14 = .ok (.invokevirtual 15, 3) := by decide +kernel
theorem dF_settle_17 : decode bF_settle 17 = .ok (.aload_n 0, 1) := by decide +kernel
theorem dF_settle_18 : decode bF_settle 18 = .ok (.iload_n 3, 1) := by decide +kernel
theorem dF_settle_19 : decode bF_settle 19 = .ok (.iconst 1, 1) := by decide +kernel
theorem dF_settle_20 : decode bF_settle 20 = .ok (.iadd, 1) := by decide +kernel
theorem dF_settle_21 : decode bF_settle 21 = .ok (.invokevirtual 21, 3) := by decide +kernel
theorem dF_settle_24 : decode bF_settle 24 = .ok (.iinc 3 1, 3) := by decide +kernel
theorem dF_settle_27 : decode bF_settle 27 = .ok (.goto (-25), 3) := by decide +kernel
theorem dF_settle_30 : decode bF_settle 30 = .ok (.iconst 1, 1) := by decide +kernel
theorem dF_settle_31 : decode bF_settle 31 = .ok (.istore_n 3, 1) := by decide +kernel
theorem dF_settle_32 : decode bF_settle 32 = .ok (.iconst 0, 1) := by decide +kernel
theorem dF_settle_33 : decode bF_settle 33 = .ok (.istore 4, 2) := by decide +kernel
theorem dF_settle_35 : decode bF_settle 35 = .ok (.iload_n 3, 1) := by decide +kernel
theorem dF_settle_36 : decode bF_settle 36 = .ok (.ifCond .eq 68, 3) := by decide +kernel
theorem dF_settle_39 : decode bF_settle 39 = .ok (.iload 4, 2) := by decide +kernel
theorem dF_settle_41 : decode bF_settle 41 = .ok (.ldc 25, 2) := by decide +kernel
theorem dF_settle_43 : decode bF_settle 43 = .ok (.if_icmp .ge 61, 3) := by decide +kernel
theorem dF_settle_46 : decode bF_settle 46 = .ok (.iconst 0, 1) := by decide +kernel
theorem dF_settle_47 : decode bF_settle 47 = .ok (.istore_n 3, 1) := by decide +kernel
theorem dF_settle_48 : decode bF_settle 48 = .ok (.iconst 0, 1) := by decide +kernel
theorem dF_settle_49 : decode bF_settle 49 = .ok (.istore 5, 2) := by decide +kernel
theorem dF_settle_51 : decode bF_settle 51 = .ok (.iload 5, 2) := by decide +kernel
theorem dF_settle_53 : decode bF_settle 53 = .ok (.aload_n 2, 1) := by decide +kernel
theorem dF_settle_54 : decode bF_settle 54 = .ok (.invokevirtual 9, 3) := by decide +kernel
theorem dF_settle_57 : decode bF_settle 57 = .ok (.if_icmp .ge 41, 3) := by decide +kernel
theorem dF_settle_60 : decode bF_settle 60 = .ok (.aload_n 0, 1) := by decide +kernel
theorem dF_settle_61 : decode bF_settle 61 = .ok (.aload_n 1, 1) := by decide +kernel
theorem dF_settle_62 : decode bF_settle 62 = .ok (.aload_n 2, 1) := by decide +kernel
theorem dF_settle_63 : decode bF_settle 63 = .ok (.iload 5, 2) := by decide +kernel
theorem dF_settle_65 : decode bF_settle 65 = .ok (.invokevirtual 15, 3) := by decide +kernel
theorem dF_settle_68 : decode bF_settle 68 = .ok (.iload_n 3, 1) := by decide +kernel
theorem dF_settle_69 : decode bF_settle 69 = .ok (.aload_n 0, 1) := by decide +kernel
theorem dF_settle_70 : decode bF_settle 70 = .ok (.iload 5, 2) := by decide +kernel
theorem dF_settle_72 : decode bF_settle 72 = .ok (.iconst 1, 1) := by decide +kernel
theorem dF_settle_73 : decode bF_settle 73 = .ok (.iadd, 1) := by decide +kernel
theorem dF_settle_74 : decode bF_settle 74 = .ok (.invokevirtual 26, 3) := by decide +kernel
theorem dF_settle_77 : decode bF_settle 77 = .ok (.ior, 1) := by decide +kernel
theorem dF_settle_78 : decode bF_settle 78 = .ok (.istore_n 3, 1) := by decide +kernel
theorem dF_settle_79 : decode bF_settle 79 = .ok (.iload_n 3, 1) := by decide +kernel
theorem dF_settle_80 : decode bF_settle 80 = .ok (.aload_n 0, 1) := by decide +kernel
theorem dF_settle_81 : decode bF_settle 81 = .ok (.aload_n 2, 1) := by decide +kernel
theorem dF_settle_82 : decode bF_settle 82 = .ok (.iload 5, 2) := by decide +kernel
theorem dF_settle_84 : decode bF_settle 84 = .ok (.invokevirtual 30, 3) := by decide +kernel
theorem dF_settle_87 : decode bF_settle 87 = .ok (.invokevirtual 26, 3) := by decide +kernel
theorem dF_settle_90 : decode bF_settle 90 = .ok (.ior, 1) := by decide +kernel
theorem dF_settle_91 : decode bF_settle 91 = .ok (.istore_n 3, 1) := by decide +kernel
theorem dF_settle_92 : decode bF_settle 92 = .ok (.iinc 5 1, 3) := by decide +kernel
theorem dF_settle_95 : decode bF_settle 95 = .ok (.goto (-44), 3) := by decide +kernel
theorem dF_settle_98 : decode bF_settle 98 = .ok (.iinc 4 1, 3) := by decide +kernel
theorem dF_settle_101 : decode bF_settle 101 = .ok (.goto (-66), 3) := by decide +kernel
theorem dF_settle_104 : decode bF_settle 104 = .ok (.return_, 1) := by decide +kernel
theorem dC_size_0 : decode bC_size 0 = .ok (.aload_n 0, 1) := by decide +kernel
theorem dC_size_1 : decode bC_size 1 = .ok (.getfield 16, 3) := by decide +kernel
theorem dC_size_4 : decode bC_size 4 = .ok (.ireturn, 1) := by decide +kernel
theorem dK_follow_0 : decode bK_follow 0 = .ok (.iconst 0, 1) := by decide +kernel
theorem dK_follow_1 : decode bK_follow 1 = .ok (.istore 4, 2) := by decide +kernel
theorem dK_follow_3 : decode bK_follow 3 = .ok (.iload 4, 2) := by decide +kernel
theorem dK_follow_5 : decode bK_follow 5 = .ok (.bipush 9, 2) := by decide +kernel
theorem dK_follow_7 : decode bK_follow 7 = .ok (.if_icmp .ge 46, 3) := by decide +kernel
theorem dK_follow_10 : decode bK_follow 10 = .ok (.aload_n 0, 1) := by decide +kernel
theorem dK_follow_11 : decode bK_follow 11 = .ok (.getfield 19, 3) := by decide +kernel
theorem dK_follow_14 : decode bK_follow 14 = .ok (.iload 4, 2) := by decide +kernel
theorem dK_follow_16 : decode bK_follow 16 = .ok (.aload_n 0, 1) := by decide +kernel
theorem dK_follow_17 : decode bK_follow 17 = .ok (.getfield 13, 3) := by decide +kernel
theorem dK_follow_20 : decode bK_follow 20 = .ok (.iload 4, 2) := by decide +kernel
theorem dK_follow_22 : decode bK_follow 22 = .ok (.aaload, 1) := by decide +kernel
theorem dK_follow_23 : decode bK_follow 23 = .ok (.iload_n 3, 1) := by decide +kernel
theorem dK_follow_24 : decode bK_follow 24 = .ok (.iaload, 1) := by decide +kernel
theorem dK_follow_25 : decode bK_follow 25 = .ok (.aload_n 2, 1) := by decide +kernel
theorem dK_follow_26 : decode bK_follow 26 = .ok (.iload_n 3, 1) := by decide +kernel
theorem dK_follow_27 : decode bK_follow 27 = .ok (.invokestatic 30, 3) := by decide +kernel
theorem dK_follow_30 : decode bK_follow 30 = .ok (.iastore, 1) := by decide +kernel
theorem dK_follow_31 : decode bK_follow 31 = .ok (.aload_n 0, 1) := by decide +kernel
theorem dK_follow_32 : decode bK_follow 32 = .ok (.getfield 23, 3) := by decide +kernel
theorem dK_follow_35 : decode bK_follow 35 = .ok (.iload 4, 2) := by decide +kernel
theorem dK_follow_37 : decode bK_follow 37 = .ok (.aload_n 0, 1) := by decide +kernel
theorem dK_follow_38 : decode bK_follow 38 = .ok (.getfield 16, 3) := by decide +kernel
theorem dK_follow_41 : decode bK_follow 41 = .ok (.iload 4, 2) := by decide +kernel
theorem dK_follow_43 : decode bK_follow 43 = .ok (.aaload, 1) := by decide +kernel
theorem dK_follow_44 : decode bK_follow 44 = .ok (.iload_n 3, 1) := by decide +kernel
theorem dK_follow_45 : decode bK_follow 45 = .ok (.iaload, 1) := by decide +kernel
theorem dK_follow_46 : decode bK_follow 46 = .ok (.iastore, 1) := by decide +kernel
theorem dK_follow_47 : decode bK_follow 47 = .ok (.iinc 4 1, 3) := by decide +kernel
theorem dK_follow_50 : decode bK_follow 50 = .ok (.goto (-47), 3) := by decide +kernel
theorem dK_follow_53 : decode bK_follow 53 = .ok (.aload_n 1, 1) := by decide +kernel
theorem dK_follow_54 : decode bK_follow 54 = .ok (.iload_n 3, 1) := by decide +kernel
theorem dK_follow_55 : decode bK_follow 55 = .ok (.iconst 1, 1) := by decide +kernel
theorem dK_follow_56 : decode bK_follow 56 = .ok (.invokevirtual 34, 3) := by decide +kernel
theorem dK_follow_59 : decode bK_follow 59 = .ok (.istore 4, 2) := by decide +kernel
theorem dK_follow_61 : decode bK_follow 61 = .ok (.aload_n 1, 1) := by decide +kernel
theorem dK_follow_62 : decode bK_follow 62 = .ok (.iload_n 3, 1) := by decide +kernel
theorem dK_follow_63 : decode bK_follow 63 = .ok (.iconst 2, 1) := by decide +kernel
theorem dK_follow_64 : decode bK_follow 64 = .ok (.invokevirtual 34, 3) := by decide +kernel
theorem dK_follow_67 : decode bK_follow 67 = .ok (.istore 5, 2) := by decide +kernel
theorem dK_follow_69 : decode bK_follow 69 = .ok (.aload_n 2, 1) := by decide +kernel
theorem dK_follow_70 : decode bK_follow 70 = .ok (.iload_n 3, 1) := by decide +kernel
theorem dK_follow_71 : decode bK_follow 71 = .ok (.invokevirtual 40, 3) := by decide +kernel
theorem dK_follow_74 : decode bK_follow 74 = .ok (.ifCond .eq 7, 3) := by decide +kernel
theorem dK_follow_77 : decode bK_follow 77 = .ok (.iconst 0, 1) := by decide +kernel
theorem dK_follow_78 : decode bK_follow 78 = .ok (.goto 7, 3) := by decide +kernel
theorem dK_follow_81 : decode bK_follow 81 = .ok (.iconst 1, 1) := by decide +kernel
theorem dK_follow_82 : decode bK_follow 82 = .ok (.iload 4, 2) := by decide +kernel
theorem dK_follow_84 : decode bK_follow 84 = .ok (.ishl, 1) := by decide +kernel
theorem dK_follow_85 : decode bK_follow 85 = .ok (.istore 6, 2) := by decide +kernel
theorem dK_follow_87 : decode bK_follow 87 = .ok (.aload_n 1, 1) := by decide +kernel
theorem dK_follow_88 : decode bK_follow 88 = .ok (.iload_n 3, 1) := by decide +kernel
theorem dK_follow_89 : decode bK_follow 89 = .ok (.invokevirtual 44, 3) := by decide +kernel
theorem dK_follow_92 : decode bK_follow 92 = .ok (.tableswitch 147 0 5 #[40, 64, 98, 147, 147, 110], 40) := by decide +kernel
theorem dK_follow_132 : decode bK_follow 132 = .ok (.aload_n 0, 1) := by decide +kernel
theorem dK_follow_133 : decode bK_follow 133 = .ok (.getfield 19, 3) := by decide +kernel
theorem dK_follow_136 : decode bK_follow 136 = .ok (.iload 4, 2) := by decide +kernel
theorem dK_follow_138 : decode bK_follow 138 = .ok (.iload 6, 2) := by decide +kernel
theorem dK_follow_140 : decode bK_follow 140 = .ok (.bipush 64, 2) := by decide +kernel
theorem dK_follow_142 : decode bK_follow 142 = .ok (.ior, 1) := by decide +kernel
theorem dK_follow_143 : decode bK_follow 143 = .ok (.iastore, 1) := by decide +kernel
theorem dK_follow_144 : decode bK_follow 144 = .ok (.aload_n 0, 1) := by decide +kernel
theorem dK_follow_145 : decode bK_follow 145 = .ok (.getfield 23, 3) := by decide +kernel
theorem dK_follow_148 : decode bK_follow 148 = .ok (.iload 4, 2) := by decide +kernel
theorem dK_follow_150 : decode bK_follow 150 = .ok (.iload 5, 2) := by decide +kernel
theorem dK_follow_152 : decode bK_follow 152 = .ok (.iastore, 1) := by decide +kernel
theorem dK_follow_153 : decode bK_follow 153 = .ok (.goto 86, 3) := by decide +kernel
theorem dK_follow_156 : decode bK_follow 156 = .ok (.aload_n 0, 1) := by decide +kernel
theorem dK_follow_157 : decode bK_follow 157 = .ok (.getfield 19, 3) := by decide +kernel
theorem dK_follow_160 : decode bK_follow 160 = .ok (.iload 4, 2) := by decide +kernel
theorem dK_follow_162 : decode bK_follow 162 = .ok (.aload_n 0, 1) := by decide +kernel
theorem dK_follow_163 : decode bK_follow 163 = .ok (.getfield 19, 3) := by decide +kernel
theorem dK_follow_166 : decode bK_follow 166 = .ok (.iload 5, 2) := by decide +kernel
theorem dK_follow_168 : decode bK_follow 168 = .ok (.iaload, 1) := by decide +kernel
theorem dK_follow_169 : decode bK_follow 169 = .ok (.iload 6, 2) := by decide +kernel
theorem dK_follow_171 : decode bK_follow 171 = .ok (.ior, 1) := by decide +kernel
theorem dK_follow_172 : decode bK_follow 172 = .ok (.iastore, 1) := by decide +kernel
theorem dK_follow_173 : decode bK_follow 173 = .ok (.aload_n 0, 1) := by decide +kernel
theorem dK_follow_174 : decode bK_follow 174 = .ok (.getfield 23, 3) := by decide +kernel
theorem dK_follow_177 : decode bK_follow 177 = .ok (.iload 4, 2) := by decide +kernel
theorem dK_follow_179 : decode bK_follow 179 = .ok (.aload_n 0, 1) := by decide +kernel
theorem dK_follow_180 : decode bK_follow 180 = .ok (.getfield 23, 3) := by decide +kernel
theorem dK_follow_183 : decode bK_follow 183 = .ok (.iload 5, 2) := by decide +kernel
theorem dK_follow_185 : decode bK_follow 185 = .ok (.iaload, 1) := by decide +kernel
theorem dK_follow_186 : decode bK_follow 186 = .ok (.iastore, 1) := by decide +kernel
theorem dK_follow_187 : decode bK_follow 187 = .ok (.goto 52, 3) := by decide +kernel
theorem dK_follow_190 : decode bK_follow 190 = .ok (.aload_n 0, 1) := by decide +kernel
theorem dK_follow_191 : decode bK_follow 191 = .ok (.getfield 19, 3) := by decide +kernel
theorem dK_follow_194 : decode bK_follow 194 = .ok (.iload 4, 2) := by decide +kernel
theorem dK_follow_196 : decode bK_follow 196 = .ok (.iload 6, 2) := by decide +kernel
theorem dK_follow_198 : decode bK_follow 198 = .ok (.iastore, 1) := by decide +kernel
theorem dK_follow_199 : decode bK_follow 199 = .ok (.goto 40, 3) := by decide +kernel
theorem dK_follow_202 : decode bK_follow 202 = .ok (.aload_n 0, 1) := by decide +kernel
theorem dK_follow_203 : decode bK_follow 203 = .ok (.getfield 19, 3) := by decide +kernel
theorem dK_follow_206 : decode bK_follow 206 = .ok (.bipush 6, 2) := by decide +kernel
theorem dK_follow_208 : decode bK_follow 208 = .ok (.iload 4, 2) := by decide +kernel
theorem dK_follow_210 : decode bK_follow 210 = .ok (.iadd, 1) := by decide +kernel
theorem dK_follow_211 : decode bK_follow 211 = .ok (.aload_n 0, 1) := by decide +kernel
theorem dK_follow_212 : decode bK_follow 212 = .ok (.getfield 19, 3) := by decide +kernel
theorem dK_follow_215 : decode bK_follow 215 = .ok (.iload 5, 2) := by decide +kernel
theorem dK_follow_217 : decode bK_follow 217 = .ok (.iaload, 1) := by decide +kernel
theorem dK_follow_218 : decode bK_follow 218 = .ok (.iastore, 1) := by decide +kernel
theorem dK_follow_219 : decode bK_follow 219 = .ok (.aload_n 0, 1) := by decide +kernel
theorem dK_follow_220 : decode bK_follow 220 = .ok (.getfield 23, 3) := by decide +kernel
theorem dK_follow_223 : decode bK_follow 223 = .ok (.bipush 6, 2) := by decide +kernel
theorem dK_follow_225 : decode bK_follow 225 = .ok (.iload 4, 2) := by decide +kernel
theorem dK_follow_227 : decode bK_follow 227 = .ok (.iadd, 1) := by decide +kernel
theorem dK_follow_228 : decode bK_follow 228 = .ok (.aload_n 0, 1) := by decide +kernel
theorem dK_follow_229 : decode bK_follow 229 = .ok (.getfield 23, 3) := by decide +kernel
theorem dK_follow_232 : decode bK_follow 232 = .ok (.iload 5, 2) := by decide +kernel
theorem dK_follow_234 : decode bK_follow 234 = .ok (.iaload, 1) := by decide +kernel
theorem dK_follow_235 : decode bK_follow 235 = .ok (.iastore, 1) := by decide +kernel
theorem dK_follow_236 : decode bK_follow 236 = .ok (.goto 3, 3) := by decide +kernel
theorem dK_follow_239 : decode bK_follow 239 = .ok (.return_, 1) := by decide +kernel
theorem dK_behindShortLine_0 : decode bK_behindShortLine 0 = .ok (.aload_n 1, 1) := by decide +kernel
theorem dK_behindShortLine_1 : decode bK_behindShortLine 1 = .ok (.iload_n 2, 1) := by decide +kernel
theorem dK_behindShortLine_2 : decode bK_behindShortLine 2 = .ok (.invokevirtual 48, 3) := by decide +kernel
theorem dK_behindShortLine_5 : decode bK_behindShortLine 5 = .ok (.istore_n 3, 1) := by decide +kernel
theorem dK_behindShortLine_6 : decode bK_behindShortLine 6 = .ok (.iload_n 3, 1) := by decide +kernel
theorem dK_behindShortLine_7 : decode bK_behindShortLine 7 = .ok (.iconst (-1), 1) := by decide +kernel
theorem dK_behindShortLine_8 : decode bK_behindShortLine 8 = .ok (.if_icmp .ne 5, 3) := by decide +kernel
theorem dK_behindShortLine_11 : decode bK_behindShortLine 11 = .ok (.iload_n 0, 1) := by decide +kernel
theorem dK_behindShortLine_12 : decode bK_behindShortLine 12 = .ok (.ireturn, 1) := by decide +kernel
theorem dK_behindShortLine_13 : decode bK_behindShortLine 13 = .ok (.aload_n 1, 1) := by decide +kernel
theorem dK_behindShortLine_14 : decode bK_behindShortLine 14 = .ok (.iload_n 2, 1) := by decide +kernel
theorem dK_behindShortLine_15 : decode bK_behindShortLine 15 = .ok (.invokevirtual 44, 3) := by decide +kernel
theorem dK_behindShortLine_18 : decode bK_behindShortLine 18 = .ok (.iconst 1, 1) := by decide +kernel
theorem dK_behindShortLine_19 : decode bK_behindShortLine 19 = .ok (.if_icmp .ne 22, 3) := by decide +kernel
theorem dK_behindShortLine_22 : decode bK_behindShortLine 22 = .ok (.iload_n 0, 1) := by decide +kernel
theorem dK_behindShortLine_23 : decode bK_behindShortLine 23 = .ok (.aload_n 1, 1) := by decide +kernel
theorem dK_behindShortLine_24 : decode bK_behindShortLine 24 = .ok (.iload_n 2, 1) := by decide +kernel
theorem dK_behindShortLine_25 : decode bK_behindShortLine 25 = .ok (.iconst 2, 1) := by decide +kernel
theorem dK_behindShortLine_26 : decode bK_behindShortLine 26 = .ok (.invokevirtual 34, 3) := by decide +kernel
theorem dK_behindShortLine_29 : decode bK_behindShortLine 29 = .ok (.ishr, 1) := by decide +kernel
theorem dK_behindShortLine_30 : decode bK_behindShortLine 30 = .ok (.iconst 1, 1) := by decide +kernel
theorem dK_behindShortLine_31 : decode bK_behindShortLine 31 = .ok (.iand, 1) := by decide +kernel
theorem dK_behindShortLine_32 : decode bK_behindShortLine 32 = .ok (.ifCond .eq 9, 3) := by decide +kernel
theorem dK_behindShortLine_35 : decode bK_behindShortLine 35 = .ok (.iload_n 0, 1) := by decide +kernel
theorem dK_behindShortLine_36 : decode bK_behindShortLine 36 = .ok (.iconst 1, 1) := by decide +kernel
theorem dK_behindShortLine_37 : decode bK_behindShortLine 37 = .ok (.iload_n 3, 1) := by decide +kernel
theorem dK_behindShortLine_38 : decode bK_behindShortLine 38 = .ok (.ishl, 1) := by decide +kernel
theorem dK_behindShortLine_39 : decode bK_behindShortLine 39 = .ok (.ior, 1) := by decide +kernel
theorem dK_behindShortLine_40 : decode bK_behindShortLine 40 = .ok (.ireturn, 1) := by decide +kernel
theorem dK_behindShortLine_41 : decode bK_behindShortLine 41 = .ok (.iload_n 0, 1) := by decide +kernel
theorem dK_behindShortLine_42 : decode bK_behindShortLine 42 = .ok (.iconst 1, 1) := by decide +kernel
theorem dK_behindShortLine_43 : decode bK_behindShortLine 43 = .ok (.iload_n 3, 1) := by decide +kernel
theorem dK_behindShortLine_44 : decode bK_behindShortLine 44 = .ok (.ishl, 1) := by decide +kernel
theorem dK_behindShortLine_45 : decode bK_behindShortLine 45 = .ok (.iconst (-1), 1) := by decide +kernel
theorem dK_behindShortLine_46 : decode bK_behindShortLine 46 = .ok (.ixor, 1) := by decide +kernel
theorem dK_behindShortLine_47 : decode bK_behindShortLine 47 = .ok (.iand, 1) := by decide +kernel
theorem dK_behindShortLine_48 : decode bK_behindShortLine 48 = .ok (.ireturn, 1) := by decide +kernel
theorem dC_written_0 : decode bC_written 0 = .ok (.aload_n 0, 1) := by decide +kernel
theorem dC_written_1 : decode bC_written 1 = .ok (.getfield 11, 3) := by decide +kernel
theorem dC_written_4 : decode bC_written 4 = .ok (.iconst 0, 1) := by decide +kernel
theorem dC_written_5 : decode bC_written 5 = .ok (.aaload, 1) := by decide +kernel
theorem dC_written_6 : decode bC_written 6 = .ok (.iload_n 1, 1) := by decide +kernel
theorem dC_written_7 : decode bC_written 7 = .ok (.iaload, 1) := by decide +kernel
theorem dC_written_8 : decode bC_written 8 = .ok (.istore_n 2, 1) := by decide +kernel
theorem dC_written_9 : decode bC_written 9 = .ok (.iload_n 2, 1) := by decide +kernel
theorem dC_written_10 : decode bC_written 10 = .ok (.ifCond .eq 13, 3) := by decide +kernel
theorem dC_written_13 : decode bC_written 13 = .ok (.iload_n 2, 1) := by decide +kernel
theorem dC_written_14 : decode bC_written 14 = .ok (.iconst 1, 1) := by decide +kernel
theorem dC_written_15 : decode bC_written 15 = .ok (.if_icmp .eq 8, 3) := by decide +kernel
theorem dC_written_18 : decode bC_written 18 = .ok (.iload_n 2, 1) := by decide +kernel
theorem dC_written_19 : decode bC_written 19 = .ok (.iconst 2, 1) := by decide +kernel
theorem dC_written_20 : decode bC_written 20 = .ok (.if_icmp .ne 14, 3) := by decide +kernel
theorem dC_written_23 : decode bC_written 23 = .ok (.aload_n 0, 1) := by decide +kernel
theorem dC_written_24 : decode bC_written 24 = .ok (.getfield 11, 3) := by decide +kernel
theorem dC_written_27 : decode bC_written 27 = .ok (.iconst 1, 1) := by decide +kernel
theorem dC_written_28 : decode bC_written 28 = .ok (.aaload, 1) := by decide +kernel
theorem dC_written_29 : decode bC_written 29 = .ok (.iload_n 1, 1) := by decide +kernel
theorem dC_written_30 : decode bC_written 30 = .ok (.iaload, 1) := by decide +kernel
theorem dC_written_31 : decode bC_written 31 = .ok (.goto 4, 3) := by decide +kernel
theorem dC_written_34 : decode bC_written 34 = .ok (.iconst (-1), 1) := by decide +kernel
theorem dC_written_35 : decode bC_written 35 = .ok (.ireturn, 1) := by decide +kernel
theorem dC_kind_0 : decode bC_kind 0 = .ok (.aload_n 0, 1) := by decide +kernel
theorem dC_kind_1 : decode bC_kind 1 = .ok (.getfield 11, 3) := by decide +kernel
theorem dC_kind_4 : decode bC_kind 4 = .ok (.iconst 0, 1) := by decide +kernel
theorem dC_kind_5 : decode bC_kind 5 = .ok (.aaload, 1) := by decide +kernel
theorem dC_kind_6 : decode bC_kind 6 = .ok (.iload_n 1, 1) := by decide +kernel
theorem dC_kind_7 : decode bC_kind 7 = .ok (.iaload, 1) := by decide +kernel
theorem dC_kind_8 : decode bC_kind 8 = .ok (.ireturn, 1) := by decide +kernel
theorem dC_number_0 : decode bC_number 0 = .ok (.aload_n 0, 1) := by decide +kernel
theorem dC_number_1 : decode bC_number 1 = .ok (.getfield 11, 3) := by decide +kernel
theorem dC_number_4 : decode bC_number 4 = .ok (.iload_n 2, 1) := by decide +kernel
theorem dC_number_5 : decode bC_number 5 = .ok (.aaload, 1) := by decide +kernel
theorem dC_number_6 : decode bC_number 6 = .ok (.iload_n 1, 1) := by decide +kernel
theorem dC_number_7 : decode bC_number 7 = .ok (.iaload, 1) := by decide +kernel
theorem dC_number_8 : decode bC_number 8 = .ok (.ireturn, 1) := by decide +kernel
theorem dC_isEmpty_0 : decode bC_isEmpty 0 = .ok (.aload_n 0, 1) := by decide +kernel
theorem dC_isEmpty_1 : decode bC_isEmpty 1 = .ok (.getfield 11, 3) := by decide +kernel
theorem dC_isEmpty_4 : decode bC_isEmpty 4 = .ok (.iconst 0, 1) := by decide +kernel
theorem dC_isEmpty_5 : decode bC_isEmpty 5 = .ok (.aaload, 1) := by decide +kernel
theorem dC_isEmpty_6 : decode bC_isEmpty 6 = .ok (.iload_n 1, 1) := by decide +kernel
theorem dC_isEmpty_7 : decode bC_isEmpty 7 = .ok (.iaload, 1) := by decide +kernel
theorem dC_isEmpty_8 : decode bC_isEmpty 8 = .ok (.iconst (-1), 1) := by decide +kernel
theorem dC_isEmpty_9 : decode bC_isEmpty 9 = .ok (.if_icmp .ne 7, 3) := by decide +kernel
theorem dC_isEmpty_12 : decode bC_isEmpty 12 = .ok (.iconst 1, 1) := by decide +kernel
theorem dC_isEmpty_13 : decode bC_isEmpty 13 = .ok (.goto 4, 3) := by decide +kernel
theorem dC_isEmpty_16 : decode bC_isEmpty 16 = .ok (.iconst 0, 1) := by decide +kernel
theorem dC_isEmpty_17 : decode bC_isEmpty 17 = .ok (.ireturn, 1) := by decide +kernel
theorem dP_follow_0 : decode bP_follow 0 = .ok (.aload_n 2, 1) := by decide +kernel
theorem dP_follow_1 : decode bP_follow 1 = .ok (.iload_n 3, 1) := by decide +kernel
theorem dP_follow_2 : decode bP_follow 2 = .ok (.invokevirtual 24, 3) := by decide +kernel
theorem dP_follow_5 : decode bP_follow 5 = .ok (.istore 4, 2) := by decide +kernel
theorem dP_follow_7 : decode bP_follow 7 = .ok (.iconst 0, 1) := by decide +kernel
theorem dP_follow_8 : decode bP_follow 8 = .ok (.istore 5, 2) := by decide +kernel
theorem dP_follow_10 : decode bP_follow 10 = .ok (.iload 5, 2) := by decide +kernel
theorem dP_follow_12 : decode bP_follow 12 = .ok (.bipush 6, 2) := by decide +kernel
theorem dP_follow_14 : decode bP_follow 14 = .ok (.if_icmp .ge 47, 3) := by decide +kernel
theorem dP_follow_17 : decode bP_follow 17 = .ok (.aload_n 0, 1) := by decide +kernel
theorem dP_follow_18 : decode bP_follow 18 = .ok (.getfield 11, 3) := by decide +kernel
theorem dP_follow_21 : decode bP_follow 21 = .ok (.iload 5, 2) := by decide +kernel
theorem dP_follow_23 : decode bP_follow 23 = .ok (.aaload, 1) := by decide +kernel
theorem dP_follow_24 : decode bP_follow 24 = .ok (.iload_n 3, 1) := by decide +kernel
theorem dP_follow_25 : decode bP_follow 25 = .ok (.iaload, 1) := by decide +kernel
theorem dP_follow_26 : decode bP_follow 26 = .ok (.istore 6, 2) := by decide +kernel
theorem dP_follow_28 : decode bP_follow 28 = .ok (.aload_n 0, 1) := by decide +kernel
theorem dP_follow_29 : decode bP_follow 29 = .ok (.getfield 16, 3) := by decide +kernel
theorem dP_follow_32 : decode bP_follow 32 = .ok (.iload 5, 2) := by decide +kernel
theorem dP_follow_34 : decode bP_follow 34 = .ok (.iload 5, 2) := by decide +kernel
theorem dP_follow_36 : decode bP_follow 36 = .ok (.iload 4, 2) := by decide +kernel
theorem dP_follow_38 : decode bP_follow 38 = .ok (.if_icmp .eq 10, 3) := by decide +kernel
theorem dP_follow_41 : decode bP_follow 41 = .ok (.iload 6, 2) := by decide +kernel
theorem dP_follow_43 : decode bP_follow 43 = .ok (.iload 4, 2) := by decide +kernel
theorem dP_follow_45 : decode bP_follow 45 = .ok (.if_icmp .ne 7, 3) := by decide +kernel
theorem dP_follow_48 : decode bP_follow 48 = .ok (.iconst (-1), 1) := by decide +kernel
theorem dP_follow_49 : decode bP_follow 49 = .ok (.goto 5, 3) := by decide +kernel
theorem dP_follow_52 : decode bP_follow 52 = .ok (.iload 6, 2) := by decide +kernel
theorem dP_follow_54 : decode bP_follow 54 = .ok (.iastore, 1) := by decide +kernel
theorem dP_follow_55 : decode bP_follow 55 = .ok (.iinc 5 1, 3) := by decide +kernel
theorem dP_follow_58 : decode bP_follow 58 = .ok (.goto (-48), 3) := by decide +kernel
theorem dP_follow_61 : decode bP_follow 61 = .ok (.aload_n 2, 1) := by decide +kernel
theorem dP_follow_62 : decode bP_follow 62 = .ok (.iload_n 3, 1) := by decide +kernel
theorem dP_follow_63 : decode bP_follow 63 = .ok (.invokevirtual 30, 3) := by decide +kernel
theorem dP_follow_66 : decode bP_follow 66 = .ok (.iconst 1, 1) := by decide +kernel
theorem dP_follow_67 : decode bP_follow 67 = .ok (.if_icmp .ne 27, 3) := by decide +kernel
theorem dP_follow_70 : decode bP_follow 70 = .ok (.aload_n 2, 1) := by decide +kernel
theorem dP_follow_71 : decode bP_follow 71 = .ok (.iload_n 3, 1) := by decide +kernel
theorem dP_follow_72 : decode bP_follow 72 = .ok (.iconst 2, 1) := by decide +kernel
theorem dP_follow_73 : decode bP_follow 73 = .ok (.invokevirtual 33, 3) := by decide +kernel
theorem dP_follow_76 : decode bP_follow 76 = .ok (.iload 4, 2) := by decide +kernel
theorem dP_follow_78 : decode bP_follow 78 = .ok (.if_icmp .eq 16, 3) := by decide +kernel
theorem dP_follow_81 : decode bP_follow 81 = .ok (.aload_n 0, 1) := by decide +kernel
theorem dP_follow_82 : decode bP_follow 82 = .ok (.getfield 16, 3) := by decide +kernel
theorem dP_follow_85 : decode bP_follow 85 = .ok (.iload 4, 2) := by decide +kernel
theorem dP_follow_87 : decode bP_follow 87 = .ok (.aload_n 2, 1) := by decide +kernel
theorem dP_follow_88 : decode bP_follow 88 = .ok (.iload_n 3, 1) := by decide +kernel
theorem dP_follow_89 : decode bP_follow 89 = .ok (.iconst 2, 1) := by decide +kernel
theorem dP_follow_90 : decode bP_follow 90 = .ok (.invokevirtual 33, 3) := by decide +kernel
theorem dP_follow_93 : decode bP_follow 93 = .ok (.iastore, 1) := by decide +kernel
theorem dP_follow_94 : decode bP_follow 94 = .ok (.return_, 1) := by decide +kernel
theorem dK_put_0 : decode bK_put 0 = .ok (.iconst 0, 1) := by decide +kernel
theorem dK_put_1 : decode bK_put 1 = .ok (.istore_n 2, 1) := by decide +kernel
theorem dK_put_2 : decode bK_put 2 = .ok (.iload_n 2, 1) := by decide +kernel
theorem dK_put_3 : decode bK_put 3 = .ok (.bipush 9, 2) := by decide +kernel
theorem dK_put_5 : decode bK_put 5 = .ok (.if_icmp .ge 37, 3) := by decide +kernel
theorem dK_put_8 : decode bK_put 8 = .ok (.aload_n 0, 1) := by decide +kernel
theorem dK_put_9 : decode bK_put 9 = .ok (.getfield 13, 3) := by decide +kernel
theorem dK_put_12 : decode bK_put 12 = .ok (.iload_n 2, 1) := by decide +kernel
theorem dK_put_13 : decode bK_put 13 = .ok (.aaload, 1) := by decide +kernel
theorem dK_put_14 : decode bK_put 14 = .ok (.iload_n 1, 1) := by decide +kernel
theorem dK_put_15 : decode bK_put 15 = .ok (.aload_n 0, 1) := by decide +kernel
theorem dK_put_16 : decode bK_put 16 = .ok (.getfield 19, 3) := by decide +kernel
theorem dK_put_19 : decode bK_put 19 = .ok (.iload_n 2, 1) := by decide +kernel
theorem dK_put_20 : decode bK_put 20 = .ok (.iaload, 1) := by decide +kernel
theorem dK_put_21 : decode bK_put 21 = .ok (.iastore, 1) := by decide +kernel
theorem dK_put_22 : decode bK_put 22 = .ok (.aload_n 0, 1) := by decide +kernel
theorem dK_put_23 : decode bK_put 23 = .ok (.getfield 16, 3) := by decide +kernel
theorem dK_put_26 : decode bK_put 26 = .ok (.iload_n 2, 1) := by decide +kernel
theorem dK_put_27 : decode bK_put 27 = .ok (.aaload, 1) := by decide +kernel
theorem dK_put_28 : decode bK_put 28 = .ok (.iload_n 1, 1) := by decide +kernel
theorem dK_put_29 : decode bK_put 29 = .ok (.aload_n 0, 1) := by decide +kernel
theorem dK_put_30 : decode bK_put 30 = .ok (.getfield 23, 3) := by decide +kernel
theorem dK_put_33 : decode bK_put 33 = .ok (.iload_n 2, 1) := by decide +kernel
theorem dK_put_34 : decode bK_put 34 = .ok (.iaload, 1) := by decide +kernel
theorem dK_put_35 : decode bK_put 35 = .ok (.iastore, 1) := by decide +kernel
theorem dK_put_36 : decode bK_put 36 = .ok (.iinc 2 1, 3) := by decide +kernel
theorem dK_put_39 : decode bK_put 39 = .ok (.goto (-37), 3) := by decide +kernel
theorem dK_put_42 : decode bK_put 42 = .ok (.return_, 1) := by decide +kernel
theorem dP_put_0 : decode bP_put 0 = .ok (.iconst 0, 1) := by decide +kernel
theorem dP_put_1 : decode bP_put 1 = .ok (.istore_n 2, 1) := by decide +kernel
theorem dP_put_2 : decode bP_put 2 = .ok (.iload_n 2, 1) := by decide +kernel
theorem dP_put_3 : decode bP_put 3 = .ok (.bipush 6, 2) := by decide +kernel
theorem dP_put_5 : decode bP_put 5 = .ok (.if_icmp .ge 23, 3) := by decide +kernel
theorem dP_put_8 : decode bP_put 8 = .ok (.aload_n 0, 1) := by decide +kernel
theorem dP_put_9 : decode bP_put 9 = .ok (.getfield 11, 3) := by decide +kernel
theorem dP_put_12 : decode bP_put 12 = .ok (.iload_n 2, 1) := by decide +kernel
theorem dP_put_13 : decode bP_put 13 = .ok (.aaload, 1) := by decide +kernel
theorem dP_put_14 : decode bP_put 14 = .ok (.iload_n 1, 1) := by decide +kernel
theorem dP_put_15 : decode bP_put 15 = .ok (.aload_n 0, 1) := by decide +kernel
theorem dP_put_16 : decode bP_put 16 = .ok (.getfield 16, 3) := by decide +kernel
theorem dP_put_19 : decode bP_put 19 = .ok (.iload_n 2, 1) := by decide +kernel
theorem dP_put_20 : decode bP_put 20 = .ok (.iaload, 1) := by decide +kernel
theorem dP_put_21 : decode bP_put 21 = .ok (.iastore, 1) := by decide +kernel
theorem dP_put_22 : decode bP_put 22 = .ok (.iinc 2 1, 3) := by decide +kernel
theorem dP_put_25 : decode bP_put 25 = .ok (.goto (-23), 3) := by decide +kernel
theorem dP_put_28 : decode bP_put 28 = .ok (.return_, 1) := by decide +kernel
theorem dK_narrow_0 : decode bK_narrow 0 = .ok (.iconst 0, 1) := by decide +kernel
theorem dK_narrow_1 : decode bK_narrow 1 = .ok (.istore_n 2, 1) := by decide +kernel
theorem dK_narrow_2 : decode bK_narrow 2 = .ok (.iconst 0, 1) := by decide +kernel
theorem dK_narrow_3 : decode bK_narrow 3 = .ok (.istore_n 3, 1) := by decide +kernel
theorem dK_narrow_4 : decode bK_narrow 4 = .ok (.iload_n 3, 1) := by decide +kernel
theorem dK_narrow_5 : decode bK_narrow 5 = .ok (.bipush 9, 2) := by decide +kernel
theorem dK_narrow_7 : decode bK_narrow 7 = .ok (.if_icmp .ge 81, 3) := by decide +kernel
theorem dK_narrow_10 : decode bK_narrow 10 = .ok (.aload_n 0, 1) := by decide +kernel
theorem dK_narrow_11 : decode bK_narrow 11 = .ok (.getfield 13, 3) := by decide +kernel
theorem dK_narrow_14 : decode bK_narrow 14 = .ok (.iload_n 3, 1) := by decide +kernel
theorem dK_narrow_15 : decode bK_narrow 15 = .ok (.aaload, 1) := by decide +kernel
theorem dK_narrow_16 : decode bK_narrow 16 = .ok (.iload_n 1, 1) := by decide +kernel
theorem dK_narrow_17 : decode bK_narrow 17 = .ok (.iaload, 1) := by decide +kernel
theorem dK_narrow_18 : decode bK_narrow 18 = .ok (.aload_n 0, 1) := by decide +kernel
theorem dK_narrow_19 : decode bK_narrow 19 = .ok (.getfield 19, 3) := by decide +kernel
theorem dK_narrow_22 : decode bK_narrow 22 = .ok (.iload_n 3, 1) := by decide +kernel
theorem dK_narrow_23 : decode bK_narrow 23 = .ok (.iaload, 1) := by decide +kernel
theorem dK_narrow_24 : decode bK_narrow 24 = .ok (.iand, 1) := by decide +kernel
theorem dK_narrow_25 : decode bK_narrow 25 = .ok (.istore 4, 2) := by decide +kernel
theorem dK_narrow_27 : decode bK_narrow 27 = .ok (.aload_n 0, 1) := by decide +kernel
theorem dK_narrow_28 : decode bK_narrow 28 = .ok (.getfield 16, 3) := by decide +kernel
theorem dK_narrow_31 : decode bK_narrow 31 = .ok (.iload_n 3, 1) := by decide +kernel
theorem dK_narrow_32 : decode bK_narrow 32 = .ok (.aaload, 1) := by decide +kernel
theorem dK_narrow_33 : decode bK_narrow 33 = .ok (.iload_n 1, 1) := by decide +kernel
theorem dK_narrow_34 : decode bK_narrow 34 = .ok (.iaload, 1) := by decide +kernel
theorem dK_narrow_35 : decode bK_narrow 35 = .ok (.aload_n 0, 1) := by decide +kernel
theorem dK_narrow_36 : decode bK_narrow 36 = .ok (.getfield 23, 3) := by decide +kernel
theorem dK_narrow_39 : decode bK_narrow 39 = .ok (.iload_n 3, 1) := by decide +kernel
theorem dK_narrow_40 : decode bK_narrow 40 = .ok (.iaload, 1) := by decide +kernel
theorem dK_narrow_41 : decode bK_narrow 41 = .ok (.if_icmp .eq 10, 3) := by decide +kernel
theorem dK_narrow_44 : decode bK_narrow 44 = .ok (.iload 4, 2) := by decide +kernel
theorem dK_narrow_46 : decode bK_narrow 46 = .ok (.bipush (-65), 2) := by decide +kernel
theorem dK_narrow_48 : decode bK_narrow 48 = .ok (.iand, 1) := by decide +kernel
theorem dK_narrow_49 : decode bK_narrow 49 = .ok (.istore 4, 2) := by decide +kernel
theorem dK_narrow_51 : decode bK_narrow 51 = .ok (.iload_n 2, 1) := by decide +kernel
theorem dK_narrow_52 : decode bK_narrow 52 = .ok (.iload 4, 2) := by decide +kernel
theorem dK_narrow_54 : decode bK_narrow 54 = .ok (.aload_n 0, 1) := by decide +kernel
theorem dK_narrow_55 : decode bK_narrow 55 = .ok (.getfield 13, 3) := by decide +kernel
theorem dK_narrow_58 : decode bK_narrow 58 = .ok (.iload_n 3, 1) := by decide +kernel
theorem dK_narrow_59 : decode bK_narrow 59 = .ok (.aaload, 1) := by decide +kernel
theorem dK_narrow_60 : decode bK_narrow 60 = .ok (.iload_n 1, 1) := by decide +kernel
theorem dK_narrow_61 : decode bK_narrow 61 = .ok (.iaload, 1) := by decide +kernel
theorem dK_narrow_62 : decode bK_narrow 62 = .ok (.if_icmp .eq 7, 3) := by decide +kernel
theorem dK_narrow_65 : decode bK_narrow 65 = .ok (.iconst 1, 1) := by decide +kernel
theorem dK_narrow_66 : decode bK_narrow 66 = .ok (.goto 4, 3) := by decide +kernel
theorem dK_narrow_69 : decode bK_narrow 69 = .ok (.iconst 0, 1) := by decide +kernel
theorem dK_narrow_70 : decode bK_narrow 70 = .ok (.ior, 1) := by decide +kernel
theorem dK_narrow_71 : decode bK_narrow 71 = .ok (.istore_n 2, 1) := by decide +kernel
theorem dK_narrow_72 : decode bK_narrow 72 = .ok (.aload_n 0, 1) := by decide +kernel
theorem dK_narrow_73 : decode bK_narrow 73 = .ok (.getfield 13, 3) := by decide +kernel
theorem dK_narrow_76 : decode bK_narrow 76 = .ok (.iload_n 3, 1) := by decide +kernel
theorem dK_narrow_77 : decode bK_narrow 77 = .ok (.aaload, 1) := by decide +kernel
theorem dK_narrow_78 : decode bK_narrow 78 = .ok (.iload_n 1, 1) := by decide +kernel
theorem dK_narrow_79 : decode bK_narrow 79 = .ok (.iload 4, 2) := by decide +kernel
theorem dK_narrow_81 : decode bK_narrow 81 = .ok (.iastore, 1) := by decide +kernel
theorem dK_narrow_82 : decode bK_narrow 82 = .ok (.iinc 3 1, 3) := by decide +kernel
theorem dK_narrow_85 : decode bK_narrow 85 = .ok (.goto (-81), 3) := by decide +kernel
theorem dK_narrow_88 : decode bK_narrow 88 = .ok (.iload_n 2, 1) := by decide +kernel
theorem dK_narrow_89 : decode bK_narrow 89 = .ok (.ireturn, 1) := by decide +kernel
theorem dP_narrow_0 : decode bP_narrow 0 = .ok (.iconst 0, 1) := by decide +kernel
theorem dP_narrow_1 : decode bP_narrow 1 = .ok (.istore_n 2, 1) := by decide +kernel
theorem dP_narrow_2 : decode bP_narrow 2 = .ok (.iconst 0, 1) := by decide +kernel
theorem dP_narrow_3 : decode bP_narrow 3 = .ok (.istore_n 3, 1) := by decide +kernel
theorem dP_narrow_4 : decode bP_narrow 4 = .ok (.iload_n 3, 1) := by decide +kernel
theorem dP_narrow_5 : decode bP_narrow 5 = .ok (.bipush 6, 2) := by decide +kernel
theorem dP_narrow_7 : decode bP_narrow 7 = .ok (.if_icmp .ge 49, 3) := by decide +kernel
theorem dP_narrow_10 : decode bP_narrow 10 = .ok (.aload_n 0, 1) := by decide +kernel
theorem dP_narrow_11 : decode bP_narrow 11 = .ok (.getfield 11, 3) := by decide +kernel
theorem dP_narrow_14 : decode bP_narrow 14 = .ok (.iload_n 3, 1) := by decide +kernel
theorem dP_narrow_15 : decode bP_narrow 15 = .ok (.aaload, 1) := by decide +kernel
theorem dP_narrow_16 : decode bP_narrow 16 = .ok (.iload_n 1, 1) := by decide +kernel
theorem dP_narrow_17 : decode bP_narrow 17 = .ok (.iaload, 1) := by decide +kernel
theorem dP_narrow_18 : decode bP_narrow 18 = .ok (.iconst (-1), 1) := by decide +kernel
theorem dP_narrow_19 : decode bP_narrow 19 = .ok (.if_icmp .eq 31, 3) := by decide +kernel
theorem dP_narrow_22 : decode bP_narrow 22 = .ok (.aload_n 0, 1) := by decide +kernel
theorem dP_narrow_23 : decode bP_narrow 23 = .ok (.getfield 11, 3) := by decide +kernel
theorem dP_narrow_26 : decode bP_narrow 26 = .ok (.iload_n 3, 1) := by decide +kernel
theorem dP_narrow_27 : decode bP_narrow 27 = .ok (.aaload, 1) := by decide +kernel
theorem dP_narrow_28 : decode bP_narrow 28 = .ok (.iload_n 1, 1) := by decide +kernel
theorem dP_narrow_29 : decode bP_narrow 29 = .ok (.iaload, 1) := by decide +kernel
theorem dP_narrow_30 : decode bP_narrow 30 = .ok (.aload_n 0, 1) := by decide +kernel
theorem dP_narrow_31 : decode bP_narrow 31 = .ok (.getfield 16, 3) := by decide +kernel
theorem dP_narrow_34 : decode bP_narrow 34 = .ok (.iload_n 3, 1) := by decide +kernel
theorem dP_narrow_35 : decode bP_narrow 35 = .ok (.iaload, 1) := by decide +kernel
theorem dP_narrow_36 : decode bP_narrow 36 = .ok (.if_icmp .eq 14, 3) := by decide +kernel
theorem dP_narrow_39 : decode bP_narrow 39 = .ok (.aload_n 0, 1) := by decide +kernel
theorem dP_narrow_40 : decode bP_narrow 40 = .ok (.getfield 11, 3) := by decide +kernel
theorem dP_narrow_43 : decode bP_narrow 43 = .ok (.iload_n 3, 1) := by decide +kernel
theorem dP_narrow_44 : decode bP_narrow 44 = .ok (.aaload, 1) := by decide +kernel
theorem dP_narrow_45 : decode bP_narrow 45 = .ok (.iload_n 1, 1) := by decide +kernel
theorem dP_narrow_46 : decode bP_narrow 46 = .ok (.iconst (-1), 1) := by decide +kernel
theorem dP_narrow_47 : decode bP_narrow 47 = .ok (.iastore, 1) := by decide +kernel
theorem dP_narrow_48 : decode bP_narrow 48 = .ok (.iconst 1, 1) := by decide +kernel
theorem dP_narrow_49 : decode bP_narrow 49 = .ok (.istore_n 2, 1) := by decide +kernel
theorem dP_narrow_50 : decode bP_narrow 50 = .ok (.iinc 3 1, 3) := by decide +kernel
theorem dP_narrow_53 : decode bP_narrow 53 = .ok (.goto (-49), 3) := by decide +kernel
theorem dP_narrow_56 : decode bP_narrow 56 = .ok (.iload_n 2, 1) := by decide +kernel
theorem dP_narrow_57 : decode bP_narrow 57 = .ok (.ireturn, 1) := by decide +kernel
theorem dC_target_0 : decode bC_target 0 = .ok (.aload_n 0, 1) := by decide +kernel
theorem dC_target_1 : decode bC_target 1 = .ok (.getfield 11, 3) := by decide +kernel
theorem dC_target_4 : decode bC_target 4 = .ok (.iconst 0, 1) := by decide +kernel
theorem dC_target_5 : decode bC_target 5 = .ok (.aaload, 1) := by decide +kernel
theorem dC_target_6 : decode bC_target 6 = .ok (.iload_n 1, 1) := by decide +kernel
theorem dC_target_7 : decode bC_target 7 = .ok (.iaload, 1) := by decide +kernel
theorem dC_target_8 : decode bC_target 8 = .ok (.iconst 4, 1) := by decide +kernel
theorem dC_target_9 : decode bC_target 9 = .ok (.if_icmp .eq 7, 3) := by decide +kernel
theorem dC_target_12 : decode bC_target 12 = .ok (.iload_n 1, 1) := by decide +kernel
theorem dC_target_13 : decode bC_target 13 = .ok (.iconst 1, 1) := by decide +kernel
theorem dC_target_14 : decode bC_target 14 = .ok (.iadd, 1) := by decide +kernel
theorem dC_target_15 : decode bC_target 15 = .ok (.ireturn, 1) := by decide +kernel
theorem dC_target_16 : decode bC_target 16 = .ok (.aload_n 0, 1) := by decide +kernel
theorem dC_target_17 : decode bC_target 17 = .ok (.getfield 11, 3) := by decide +kernel
theorem dC_target_20 : decode bC_target 20 = .ok (.iconst 2, 1) := by decide +kernel
theorem dC_target_21 : decode bC_target 21 = .ok (.aaload, 1) := by decide +kernel
theorem dC_target_22 : decode bC_target 22 = .ok (.iload_n 1, 1) := by decide +kernel
theorem dC_target_23 : decode bC_target 23 = .ok (.iaload, 1) := by decide +kernel
theorem dC_target_24 : decode bC_target 24 = .ok (.aload_n 0, 1) := by decide +kernel
theorem dC_target_25 : decode bC_target 25 = .ok (.getfield 16, 3) := by decide +kernel
theorem dC_target_28 : decode bC_target 28 = .ok (.if_icmp .ge 14, 3) := by decide +kernel
theorem dC_target_31 : decode bC_target 31 = .ok (.aload_n 0, 1) := by decide +kernel
theorem dC_target_32 : decode bC_target 32 = .ok (.getfield 11, 3) := by decide +kernel
theorem dC_target_35 : decode bC_target 35 = .ok (.iconst 2, 1) := by decide +kernel
theorem dC_target_36 : decode bC_target 36 = .ok (.aaload, 1) := by decide +kernel
theorem dC_target_37 : decode bC_target 37 = .ok (.iload_n 1, 1) := by decide +kernel
theorem dC_target_38 : decode bC_target 38 = .ok (.iaload, 1) := by decide +kernel
theorem dC_target_39 : decode bC_target 39 = .ok (.goto 7, 3) := by decide +kernel
theorem dC_target_42 : decode bC_target 42 = .ok (.aload_n 0, 1) := by decide +kernel
theorem dC_target_43 : decode bC_target 43 = .ok (.getfield 16, 3) := by decide +kernel
theorem dC_target_46 : decode bC_target 46 = .ok (.ireturn, 1) := by decide +kernel
theorem dS_passOneOn_0 : decode bS_passOneOn 0 = .ok (.aload_n 1, 1) := by decide +kernel
theorem dS_passOneOn_1 : decode bS_passOneOn 1 = .ok (.iload_n 2, 1) := by decide +kernel
theorem dS_passOneOn_2 : decode bS_passOneOn 2 = .ok (.iload_n 3, 1) := by decide +kernel
theorem dS_passOneOn_3 : decode bS_passOneOn 3 = .ok (.invokevirtual 56, 3) := by decide +kernel
theorem dS_passOneOn_6 : decode bS_passOneOn 6 = .ok (.ifCond .ne 5, 3) := by decide +kernel
theorem dS_passOneOn_9 : decode bS_passOneOn 9 = .ok (.iconst 0, 1) := by decide +kernel
theorem dS_passOneOn_10 : decode bS_passOneOn 10 = .ok (.ireturn, 1) := by decide +kernel
theorem dS_passOneOn_11 : decode bS_passOneOn 11 = .ok (.aload_n 0, 1) := by decide +kernel
theorem dS_passOneOn_12 : decode bS_passOneOn 12 = .ok (.getfield 12, 3) := by decide +kernel
theorem dS_passOneOn_15 : decode bS_passOneOn 15 = .ok (.iload_n 2, 1) := by decide +kernel
theorem dS_passOneOn_16 : decode bS_passOneOn 16 = .ok (.aload_n 1, 1) := by decide +kernel
theorem dS_passOneOn_17 : decode bS_passOneOn 17 = .ok (.iload_n 2, 1) := by decide +kernel
theorem dS_passOneOn_18 : decode bS_passOneOn 18 = .ok (.iload_n 3, 1) := by decide +kernel
theorem dS_passOneOn_19 : decode bS_passOneOn 19 = .ok (.invokevirtual 48, 3) := by decide +kernel
theorem dS_passOneOn_22 : decode bS_passOneOn 22 = .ok (.invokevirtual 60, 3) := by decide +kernel
theorem dS_passOneOn_25 : decode bS_passOneOn 25 = .ok (.istore 4, 2) := by decide +kernel
theorem dS_passOneOn_27 : decode bS_passOneOn 27 = .ok (.iload 4, 2) := by decide +kernel
theorem dS_passOneOn_29 : decode bS_passOneOn 29 = .ok (.iconst (-1), 1) := by decide +kernel
theorem dS_passOneOn_30 : decode bS_passOneOn 30 = .ok (.if_icmp .ne 5, 3) := by decide +kernel
theorem dS_passOneOn_33 : decode bS_passOneOn 33 = .ok (.iconst 0, 1) := by decide +kernel
theorem dS_passOneOn_34 : decode bS_passOneOn 34 = .ok (.ireturn, 1) := by decide +kernel
theorem dS_passOneOn_35 : decode bS_passOneOn 35 = .ok (.aload_n 1, 1) := by decide +kernel
theorem dS_passOneOn_36 : decode bS_passOneOn 36 = .ok (.iload_n 2, 1) := by decide +kernel
theorem dS_passOneOn_37 : decode bS_passOneOn 37 = .ok (.iload_n 3, 1) := by decide +kernel
theorem dS_passOneOn_38 : decode bS_passOneOn 38 = .ok (.iload 4, 2) := by decide +kernel
theorem dS_passOneOn_40 : decode bS_passOneOn 40 = .ok (.invokevirtual 63, 3) := by decide +kernel
theorem dS_passOneOn_43 : decode bS_passOneOn 43 = .ok (.iconst 1, 1) := by decide +kernel
theorem dS_passOneOn_44 : decode bS_passOneOn 44 = .ok (.ireturn, 1) := by decide +kernel
theorem dC_readsAt_0 : decode bC_readsAt 0 = .ok (.aload_n 0, 1) := by decide +kernel
theorem dC_readsAt_1 : decode bC_readsAt 1 = .ok (.getfield 11, 3) := by decide +kernel
theorem dC_readsAt_4 : decode bC_readsAt 4 = .ok (.iconst 0, 1) := by decide +kernel
theorem dC_readsAt_5 : decode bC_readsAt 5 = .ok (.aaload, 1) := by decide +kernel
theorem dC_readsAt_6 : decode bC_readsAt 6 = .ok (.iload_n 1, 1) := by decide +kernel
theorem dC_readsAt_7 : decode bC_readsAt 7 = .ok (.iaload, 1) := by decide +kernel
theorem dC_readsAt_8 : decode bC_readsAt 8 = .ok (.istore_n 3, 1) := by decide +kernel
theorem dC_readsAt_9 : decode bC_readsAt 9 = .ok (.iload_n 3, 1) := by decide +kernel
theorem dC_readsAt_10 : decode bC_readsAt 10 = .ok (.iconst (-1), 1) := by decide +kernel
theorem dC_readsAt_11 : decode bC_readsAt 11 = .ok (.if_icmp .eq 19, 3) := by decide +kernel
theorem dC_readsAt_14 : decode bC_readsAt 14 = .ok (.getstatic 30, 3) := by decide +kernel
theorem dC_readsAt_17 : decode bC_readsAt 17 = .ok (.iload_n 3, 1) := by decide +kernel
theorem dC_readsAt_18 : decode bC_readsAt 18 = .ok (.iaload, 1) := by decide +kernel
theorem dC_readsAt_19 : decode bC_readsAt 19 = .ok (.iload_n 2, 1) := by decide +kernel
theorem dC_readsAt_20 : decode bC_readsAt 20 = .ok (.ishr, 1) := by decide +kernel
theorem dC_readsAt_21 : decode bC_readsAt 21 = .ok (.iconst 1, 1) := by decide +kernel
theorem dC_readsAt_22 : decode bC_readsAt 22 = .ok (.iand, 1) := by decide +kernel
theorem dC_readsAt_23 : decode bC_readsAt 23 = .ok (.ifCond .eq 7, 3) := by decide +kernel
theorem dC_readsAt_26 : decode bC_readsAt 26 = .ok (.iconst 1, 1) := by decide +kernel
theorem dC_readsAt_27 : decode bC_readsAt 27 = .ok (.goto 4, 3) := by decide +kernel
theorem dC_readsAt_30 : decode bC_readsAt 30 = .ok (.iconst 0, 1) := by decide +kernel
theorem dC_readsAt_31 : decode bC_readsAt 31 = .ok (.ireturn, 1) := by decide +kernel
theorem dP_origin_0 : decode bP_origin 0 = .ok (.aload_n 0, 1) := by decide +kernel
theorem dP_origin_1 : decode bP_origin 1 = .ok (.getfield 11, 3) := by decide +kernel
theorem dP_origin_4 : decode bP_origin 4 = .ok (.iload_n 2, 1) := by decide +kernel
theorem dP_origin_5 : decode bP_origin 5 = .ok (.aaload, 1) := by decide +kernel
theorem dP_origin_6 : decode bP_origin 6 = .ok (.iload_n 1, 1) := by decide +kernel
theorem dP_origin_7 : decode bP_origin 7 = .ok (.iaload, 1) := by decide +kernel
theorem dP_origin_8 : decode bP_origin 8 = .ok (.ireturn, 1) := by decide +kernel
theorem dC_readInstead_0 : decode bC_readInstead 0 = .ok (.aload_n 0, 1) := by decide +kernel
theorem dC_readInstead_1 : decode bC_readInstead 1 = .ok (.getfield 11, 3) := by decide +kernel
theorem dC_readInstead_4 : decode bC_readInstead 4 = .ok (.iload_n 2, 1) := by decide +kernel
theorem dC_readInstead_5 : decode bC_readInstead 5 = .ok (.aaload, 1) := by decide +kernel
theorem dC_readInstead_6 : decode bC_readInstead 6 = .ok (.iload_n 1, 1) := by decide +kernel
theorem dC_readInstead_7 : decode bC_readInstead 7 = .ok (.iload_n 3, 1) := by decide +kernel
theorem dC_readInstead_8 : decode bC_readInstead 8 = .ok (.iastore, 1) := by decide +kernel
theorem dC_readInstead_9 : decode bC_readInstead 9 = .ok (.return_, 1) := by decide +kernel
theorem dC_makeEmpty_0 : decode bC_makeEmpty 0 = .ok (.aload_n 0, 1) := by decide +kernel
theorem dC_makeEmpty_1 : decode bC_makeEmpty 1 = .ok (.getfield 11, 3) := by decide +kernel
theorem dC_makeEmpty_4 : decode bC_makeEmpty 4 = .ok (.iconst 0, 1) := by decide +kernel
theorem dC_makeEmpty_5 : decode bC_makeEmpty 5 = .ok (.aaload, 1) := by decide +kernel
theorem dC_makeEmpty_6 : decode bC_makeEmpty 6 = .ok (.iload_n 1, 1) := by decide +kernel
theorem dC_makeEmpty_7 : decode bC_makeEmpty 7 = .ok (.iconst (-1), 1) := by decide +kernel
theorem dC_makeEmpty_8 : decode bC_makeEmpty 8 = .ok (.iastore, 1) := by decide +kernel
theorem dC_makeEmpty_9 : decode bC_makeEmpty 9 = .ok (.aload_n 0, 1) := by decide +kernel
theorem dC_makeEmpty_10 : decode bC_makeEmpty 10 = .ok (.getfield 11, 3) := by decide +kernel
theorem dC_makeEmpty_13 : decode bC_makeEmpty 13 = .ok (.iconst 1, 1) := by decide +kernel
theorem dC_makeEmpty_14 : decode bC_makeEmpty 14 = .ok (.aaload, 1) := by decide +kernel
theorem dC_makeEmpty_15 : decode bC_makeEmpty 15 = .ok (.iload_n 1, 1) := by decide +kernel
theorem dC_makeEmpty_16 : decode bC_makeEmpty 16 = .ok (.iconst 0, 1) := by decide +kernel
theorem dC_makeEmpty_17 : decode bC_makeEmpty 17 = .ok (.iastore, 1) := by decide +kernel
theorem dC_makeEmpty_18 : decode bC_makeEmpty 18 = .ok (.aload_n 0, 1) := by decide +kernel
theorem dC_makeEmpty_19 : decode bC_makeEmpty 19 = .ok (.getfield 11, 3) := by decide +kernel
theorem dC_makeEmpty_22 : decode bC_makeEmpty 22 = .ok (.iconst 2, 1) := by decide +kernel
theorem dC_makeEmpty_23 : decode bC_makeEmpty 23 = .ok (.aaload, 1) := by decide +kernel
theorem dC_makeEmpty_24 : decode bC_makeEmpty 24 = .ok (.iload_n 1, 1) := by decide +kernel
theorem dC_makeEmpty_25 : decode bC_makeEmpty 25 = .ok (.iconst 0, 1) := by decide +kernel
theorem dC_makeEmpty_26 : decode bC_makeEmpty 26 = .ok (.iastore, 1) := by decide +kernel
theorem dC_makeEmpty_27 : decode bC_makeEmpty 27 = .ok (.aload_n 0, 1) := by decide +kernel
theorem dC_makeEmpty_28 : decode bC_makeEmpty 28 = .ok (.getfield 11, 3) := by decide +kernel
theorem dC_makeEmpty_31 : decode bC_makeEmpty 31 = .ok (.iconst 3, 1) := by decide +kernel
theorem dC_makeEmpty_32 : decode bC_makeEmpty 32 = .ok (.aaload, 1) := by decide +kernel
theorem dC_makeEmpty_33 : decode bC_makeEmpty 33 = .ok (.iload_n 1, 1) := by decide +kernel
theorem dC_makeEmpty_34 : decode bC_makeEmpty 34 = .ok (.iconst 0, 1) := by decide +kernel
theorem dC_makeEmpty_35 : decode bC_makeEmpty 35 = .ok (.iastore, 1) := by decide +kernel
theorem dC_makeEmpty_36 : decode bC_makeEmpty 36 = .ok (.return_, 1) := by decide +kernel
theorem dS_leaveOutDead_0 : decode bS_leaveOutDead 0 = .ok (.aload_n 0, 1) := by decide +kernel
theorem dS_leaveOutDead_1 : decode bS_leaveOutDead 1 = .ok (.aload_n 1, 1) := by decide +kernel
theorem dS_leaveOutDead_2 : decode bS_leaveOutDead 2 = .ok (.invokevirtual 67, 3) := by decide +kernel
theorem dS_leaveOutDead_5 : decode bS_leaveOutDead 5 = .ok (.iconst 0, 1) := by decide +kernel
theorem dS_leaveOutDead_6 : decode bS_leaveOutDead 6 = .ok (.istore_n 2, 1) := by decide +kernel
theorem dS_leaveOutDead_7 : decode bS_leaveOutDead 7 = .ok (.iconst 0, 1) := by decide +kernel
theorem dS_leaveOutDead_8 : decode bS_leaveOutDead 8 = .ok (.istore_n 3, 1) := by decide +kernel
theorem dS_leaveOutDead_9 : decode bS_leaveOutDead 9 = .ok (.iload_n 3, 1) := by decide +kernel
theorem dS_leaveOutDead_10 : decode bS_leaveOutDead 10 = .ok (.aload_n 1, 1) := by decide +kernel
theorem dS_leaveOutDead_11 : decode bS_leaveOutDead 11 = .ok (.invokevirtual 34, 3) := by decide +kernel
theorem dS_leaveOutDead_14 : decode bS_leaveOutDead 14 = .ok (.if_icmp .ge 43, 3) := by decide +kernel
theorem dS_leaveOutDead_17 : decode bS_leaveOutDead 17 = .ok (.aload_n 1, 1) := by decide +kernel
theorem dS_leaveOutDead_18 : decode bS_leaveOutDead 18 = .ok (.iload_n 3, 1) := by decide +kernel
theorem dS_leaveOutDead_19 : decode bS_leaveOutDead 19 = .ok (.invokevirtual 70, 3) := by decide +kernel
theorem dS_leaveOutDead_22 : decode bS_leaveOutDead 22 = .ok (.istore 4, 2) := by decide +kernel
theorem dS_leaveOutDead_24 : decode bS_leaveOutDead 24 = .ok (.iload 4, 2) := by decide +kernel
theorem dS_leaveOutDead_26 : decode bS_leaveOutDead 26 = .ok (.iconst (-1), 1) := by decide +kernel
theorem dS_leaveOutDead_27 : decode bS_leaveOutDead 27 = .ok (.if_icmp .eq 24, 3) := by decide +kernel
theorem dS_leaveOutDead_30 : decode bS_leaveOutDead 30 = .ok (.aload_n 0, 1) := by decide +kernel
theorem dS_leaveOutDead_31 : decode bS_leaveOutDead 31 = .ok (.aload_n 1, 1) := by decide +kernel
theorem dS_leaveOutDead_32 : decode bS_leaveOutDead 32 = .ok (.iload_n 3, 1) := by decide +kernel
theorem dS_leaveOutDead_33 : decode bS_leaveOutDead 33 = .ok (.invokevirtual 73, 3) := by decide +kernel
theorem dS_leaveOutDead_36 : decode bS_leaveOutDead 36 = .ok (.iload 4, 2) := by decide +kernel
theorem dS_leaveOutDead_38 : decode bS_leaveOutDead 38 = .ok (.ishr, 1) := by decide +kernel
theorem dS_leaveOutDead_39 : decode bS_leaveOutDead 39 = .ok (.iconst 1, 1) := by decide +kernel
theorem dS_leaveOutDead_40 : decode bS_leaveOutDead 40 = .ok (.iand, 1) := by decide +kernel
theorem dS_leaveOutDead_41 : decode bS_leaveOutDead 41 = .ok (.ifCond .ne 10, 3) := by decide +kernel
theorem dS_leaveOutDead_44 : decode bS_leaveOutDead 44 = .ok (.aload_n 1, 1) := by decide +kernel
theorem dS_leaveOutDead_45 : decode bS_leaveOutDead 45 = .ok (.iload_n 3, 1) := by decide +kernel
theorem dS_leaveOutDead_46 : decode bS_leaveOutDead 46 = .ok (.invokevirtual 52, 3) := by decide +kernel
theorem dS_leaveOutDead_49 : decode bS_leaveOutDead 49 = .ok (.iconst 1, 1) := by decide +kernel
theorem dS_leaveOutDead_50 : decode bS_leaveOutDead 50 = .ok (.istore_n 2, 1) := by decide +kernel
theorem dS_leaveOutDead_51 : decode bS_leaveOutDead 51 = .ok (.iinc 3 1, 3) := by decide +kernel
theorem dS_leaveOutDead_54 : decode bS_leaveOutDead 54 = .ok (.goto (-45), 3) := by decide +kernel
theorem dS_leaveOutDead_57 : decode bS_leaveOutDead 57 = .ok (.iload_n 2, 1) := by decide +kernel
theorem dS_leaveOutDead_58 : decode bS_leaveOutDead 58 = .ok (.ireturn, 1) := by decide +kernel
theorem dS_findLive_0 : decode bS_findLive 0 = .ok (.aload_n 0, 1) := by decide +kernel
theorem dS_findLive_1 : decode bS_findLive 1 = .ok (.getfield 18, 3) := by decide +kernel
theorem dS_findLive_4 : decode bS_findLive 4 = .ok (.iconst 0, 1) := by decide +kernel
theorem dS_findLive_5 : decode bS_findLive 5 = .ok (.invokestatic 77, 3) := by decide +kernel
theorem dS_findLive_8 : decode bS_findLive 8 = .ok (.iconst 1, 1) := by decide +kernel
theorem dS_findLive_9 : decode bS_findLive 9 = .ok (.istore_n 2, 1) := by decide +kernel
theorem dS_findLive_10 : decode bS_findLive 10 = .ok (.iconst 0, 1) := by decide +kernel
theorem dS_findLive_11 : decode bS_findLive 11 = .ok (.istore_n 3, 1) := by decide +kernel
theorem dS_findLive_12 : decode bS_findLive 12 = .ok (.iload_n 2, 1) := by decide +kernel
theorem dS_findLive_13 : decode bS_findLive 13 = .ok (.ifCond .eq 74, 3) := by decide +kernel
theorem dS_findLive_16 : decode bS_findLive 16 = .ok (.iload_n 3, 1) := by decide +kernel
theorem dS_findLive_17 : decode bS_findLive 17 = .ok (.ldc 22, 2) := by decide +kernel
theorem dS_findLive_19 : decode bS_findLive 19 = .ok (.if_icmp .ge 68, 3) := by decide +kernel
theorem dS_findLive_22 : decode bS_findLive 22 = .ok (.iconst 0, 1) := by decide +kernel
theorem dS_findLive_23 : decode bS_findLive 23 = .ok (.istore_n 2, 1) := by decide +kernel
theorem dS_findLive_24 : decode bS_findLive 24 = .ok (.aload_n 1, 1) := by decide +kernel
theorem dS_findLive_25 : decode bS_findLive 25 = .ok (.invokevirtual 34, 3) := by decide +kernel
theorem dS_findLive_28 : decode bS_findLive 28 = .ok (.iconst 1, 1) := by decide +kernel
theorem dS_findLive_29 : decode bS_findLive 29 = .ok (.isub, 1) := by decide +kernel
theorem dS_findLive_30 : decode bS_findLive 30 = .ok (.istore 4, 2) := by decide +kernel
theorem dS_findLive_32 : decode bS_findLive 32 = .ok (.iload 4, 2) := by decide +kernel
theorem dS_findLive_34 : decode bS_findLive 34 = .ok (.ifCond .lt 47, 3) := by decide +kernel
theorem dS_findLive_37 : decode bS_findLive 37 = .ok (.aload_n 0, 1) := by decide +kernel
theorem dS_findLive_38 : decode bS_findLive 38 = .ok (.aload_n 1, 1) := by decide +kernel
theorem dS_findLive_39 : decode bS_findLive 39 = .ok (.iload 4, 2) := by decide +kernel
theorem dS_findLive_41 : decode bS_findLive 41 = .ok (.invokevirtual 83, 3) := by decide +kernel
theorem dS_findLive_44 : decode bS_findLive 44 = .ok (.istore 5, 2) := by decide +kernel
theorem dS_findLive_46 : decode bS_findLive 46 = .ok (.iload_n 2, 1) := by decide +kernel
theorem dS_findLive_47 : decode bS_findLive 47 = .ok (.iload 5, 2) := by decide +kernel
theorem dS_findLive_49 : decode bS_findLive 49 = .ok (.aload_n 0, 1) := by decide +kernel
theorem dS_findLive_50 : decode bS_findLive 50 = .ok (.getfield 18, 3) := by decide +kernel
theorem dS_findLive_53 : decode bS_findLive 53 = .ok (.iload 4, 2) := by decide +kernel
theorem dS_findLive_55 : decode bS_findLive 55 = .ok (.iaload, 1) := by decide +kernel
theorem dS_findLive_56 : decode bS_findLive 56 = .ok (.if_icmp .eq 7, 3) := by decide +kernel
theorem dS_findLive_59 : decode bS_findLive 59 = .ok (.iconst 1, 1) := by decide +kernel
theorem dS_findLive_60 : decode bS_findLive 60 = .ok (.goto 4, 3) := by decide +kernel
theorem dS_findLive_63 : decode bS_findLive 63 = .ok (.iconst 0, 1) := by decide +kernel
theorem dS_findLive_64 : decode bS_findLive 64 = .ok (.ior, 1) := by decide +kernel
theorem dS_findLive_65 : decode bS_findLive 65 = .ok (.istore_n 2, 1) := by decide +kernel
theorem dS_findLive_66 : decode bS_findLive 66 = .ok (.aload_n 0, 1) := by decide +kernel
theorem dS_findLive_67 : decode bS_findLive 67 = .ok (.getfield 18, 3) := by decide +kernel
theorem dS_findLive_70 : decode bS_findLive 70 = .ok (.iload 4, 2) := by decide +kernel
theorem dS_findLive_72 : decode bS_findLive 72 = .ok (.iload 5, 2) := by decide +kernel
theorem dS_findLive_74 : decode bS_findLive 74 = .ok (.iastore, 1) := by decide +kernel
theorem dS_findLive_75 : decode bS_findLive 75 = .ok (.iinc 4 (-1), 3) := by decide +kernel
theorem dS_findLive_78 : decode bS_findLive 78 = .ok (.goto (-46), 3) := by decide +kernel
theorem dS_findLive_81 : decode bS_findLive 81 = .ok (.iinc 3 1, 3) := by decide +kernel
theorem dS_findLive_84 : decode bS_findLive 84 = .ok (.goto (-72), 3) := by decide +kernel
theorem dS_findLive_87 : decode bS_findLive 87 = .ok (.return_, 1) := by decide +kernel
theorem dA_fill_0 : decode bA_fill 0 = .ok (.iconst 0, 1) := by decide +kernel
theorem dA_fill_1 : decode bA_fill 1 = .ok (.istore_n 2, 1) := by decide +kernel
theorem dA_fill_2 : decode bA_fill 2 = .ok (.aload_n 0, 1) := by decide +kernel
theorem dA_fill_3 : decode bA_fill 3 = .ok (.arraylength, 1) := by decide +kernel
theorem dA_fill_4 : decode bA_fill 4 = .ok (.istore_n 3, 1) := by decide +kernel
theorem dA_fill_5 : decode bA_fill 5 = .ok (.iload_n 2, 1) := by decide +kernel
theorem dA_fill_6 : decode bA_fill 6 = .ok (.iload_n 3, 1) := by decide +kernel
theorem dA_fill_7 : decode bA_fill 7 = .ok (.if_icmp .ge 13, 3) := by decide +kernel
theorem dA_fill_10 : decode bA_fill 10 = .ok (.aload_n 0, 1) := by decide +kernel
theorem dA_fill_11 : decode bA_fill 11 = .ok (.iload_n 2, 1) := by decide +kernel
theorem dA_fill_12 : decode bA_fill 12 = .ok (.iload_n 1, 1) := by decide +kernel
theorem dA_fill_13 : decode bA_fill 13 = .ok (.iastore, 1) := by decide +kernel
theorem dA_fill_14 : decode bA_fill 14 = .ok (.iinc 2 1, 3) := by decide +kernel
theorem dA_fill_17 : decode bA_fill 17 = .ok (.goto (-12), 3) := by decide +kernel
theorem dA_fill_20 : decode bA_fill 20 = .ok (.return_, 1) := by decide +kernel
theorem dS_liveBefore_0 : decode bS_liveBefore 0 = .ok (.aload_n 1, 1) := by decide +kernel
theorem dS_liveBefore_1 : decode bS_liveBefore 1 = .ok (.iload_n 2, 1) := by decide +kernel
theorem dS_liveBefore_2 : decode bS_liveBefore 2 = .ok (.invokevirtual 70, 3) := by decide +kernel
theorem dS_liveBefore_5 : decode bS_liveBefore 5 = .ok (.istore_n 3, 1) := by decide +kernel
theorem dS_liveBefore_6 : decode bS_liveBefore 6 = .ok (.aload_n 0, 1) := by decide +kernel
theorem dS_liveBefore_7 : decode bS_liveBefore 7 = .ok (.aload_n 1, 1) := by decide +kernel
theorem dS_liveBefore_8 : decode bS_liveBefore 8 = .ok (.iload_n 2, 1) := by decide +kernel
theorem dS_liveBefore_9 : decode bS_liveBefore 9 = .ok (.invokevirtual 73, 3) := by decide +kernel
theorem dS_liveBefore_12 : decode bS_liveBefore 12 = .ok (.istore 4, 2) := by decide +kernel
theorem dS_liveBefore_14 : decode bS_liveBefore 14 = .ok (.iload_n 3, 1) := by decide +kernel
theorem dS_liveBefore_15 : decode bS_liveBefore 15 = .ok (.iconst (-1), 1) := by decide +kernel
theorem dS_liveBefore_16 : decode bS_liveBefore 16 = .ok (.if_icmp .eq 13, 3) := by decide +kernel
theorem dS_liveBefore_19 : decode bS_liveBefore 19 = .ok (.iload 4, 2) := by decide +kernel
theorem dS_liveBefore_21 : decode bS_liveBefore 21 = .ok (.iconst 1, 1) := by decide +kernel
theorem dS_liveBefore_22 : decode bS_liveBefore 22 = .ok (.iload_n 3, 1) := by decide +kernel
theorem dS_liveBefore_23 : decode bS_liveBefore 23 = .ok (.ishl, 1) := by decide +kernel
theorem dS_liveBefore_24 : decode bS_liveBefore 24 = .ok (.iconst (-1), 1) := by decide +kernel
theorem dS_liveBefore_25 : decode bS_liveBefore 25 = .ok (.ixor, 1) := by decide +kernel
theorem dS_liveBefore_26 : decode bS_liveBefore 26 = .ok (.iand, 1) := by decide +kernel
theorem dS_liveBefore_27 : decode bS_liveBefore 27 = .ok (.istore 4, 2) := by decide +kernel
theorem dS_liveBefore_29 : decode bS_liveBefore 29 = .ok (.iload 4, 2) := by decide +kernel
theorem dS_liveBefore_31 : decode bS_liveBefore 31 = .ok (.aload_n 1, 1) := by decide +kernel
theorem dS_liveBefore_32 : decode bS_liveBefore 32 = .ok (.iload_n 2, 1) := by decide +kernel
theorem dS_liveBefore_33 : decode bS_liveBefore 33 = .ok (.invokevirtual 86, 3) := by decide +kernel
theorem dS_liveBefore_36 : decode bS_liveBefore 36 = .ok (.ior, 1) := by decide +kernel
theorem dS_liveBefore_37 : decode bS_liveBefore 37 = .ok (.ireturn, 1) := by decide +kernel
theorem dS_liveBehind_0 : decode bS_liveBehind 0 = .ok (.aload_n 0, 1) := by decide +kernel
theorem dS_liveBehind_1 : decode bS_liveBehind 1 = .ok (.getfield 18, 3) := by decide +kernel
theorem dS_liveBehind_4 : decode bS_liveBehind 4 = .ok (.iload_n 2, 1) := by decide +kernel
theorem dS_liveBehind_5 : decode bS_liveBehind 5 = .ok (.iconst 1, 1) := by decide +kernel
theorem dS_liveBehind_6 : decode bS_liveBehind 6 = .ok (.iadd, 1) := by decide +kernel
theorem dS_liveBehind_7 : decode bS_liveBehind 7 = .ok (.iaload, 1) := by decide +kernel
theorem dS_liveBehind_8 : decode bS_liveBehind 8 = .ok (.aload_n 0, 1) := by decide +kernel
theorem dS_liveBehind_9 : decode bS_liveBehind 9 = .ok (.getfield 18, 3) := by decide +kernel
theorem dS_liveBehind_12 : decode bS_liveBehind 12 = .ok (.aload_n 1, 1) := by decide +kernel
theorem dS_liveBehind_13 : decode bS_liveBehind 13 = .ok (.iload_n 2, 1) := by decide +kernel
theorem dS_liveBehind_14 : decode bS_liveBehind 14 = .ok (.invokevirtual 89, 3) := by decide +kernel
theorem dS_liveBehind_17 : decode bS_liveBehind 17 = .ok (.iaload, 1) := by decide +kernel
theorem dS_liveBehind_18 : decode bS_liveBehind 18 = .ok (.ior, 1) := by decide +kernel
theorem dS_liveBehind_19 : decode bS_liveBehind 19 = .ok (.ireturn, 1) := by decide +kernel
theorem dC_needed_0 : decode bC_needed 0 = .ok (.aload_n 0, 1) := by decide +kernel
theorem dC_needed_1 : decode bC_needed 1 = .ok (.getfield 11, 3) := by decide +kernel
theorem dC_needed_4 : decode bC_needed 4 = .ok (.iconst 0, 1) := by decide +kernel
theorem dC_needed_5 : decode bC_needed 5 = .ok (.aaload, 1) := by decide +kernel
theorem dC_needed_6 : decode bC_needed 6 = .ok (.iload_n 1, 1) := by decide +kernel
theorem dC_needed_7 : decode bC_needed 7 = .ok (.iaload, 1) := by decide +kernel
theorem dC_needed_8 : decode bC_needed 8 = .ok (.iconst 5, 1) := by decide +kernel
theorem dC_needed_9 : decode bC_needed 9 = .ok (.if_icmp .ne 5, 3) := by decide +kernel
theorem dC_needed_12 : decode bC_needed 12 = .ok (.iconst 0, 1) := by decide +kernel
theorem dC_needed_13 : decode bC_needed 13 = .ok (.ireturn, 1) := by decide +kernel
theorem dC_needed_14 : decode bC_needed 14 = .ok (.iconst 0, 1) := by decide +kernel
theorem dC_needed_15 : decode bC_needed 15 = .ok (.istore_n 2, 1) := by decide +kernel
theorem dC_needed_16 : decode bC_needed 16 = .ok (.iconst 1, 1) := by decide +kernel
theorem dC_needed_17 : decode bC_needed 17 = .ok (.istore_n 3, 1) := by decide +kernel
theorem dC_needed_18 : decode bC_needed 18 = .ok (.iload_n 3, 1) := by decide +kernel
theorem dC_needed_19 : decode bC_needed 19 = .ok (.iconst 4, 1) := by decide +kernel
theorem dC_needed_20 : decode bC_needed 20 = .ok (.if_icmp .ge 31, 3) := by decide +kernel
theorem dC_needed_23 : decode bC_needed 23 = .ok (.aload_n 0, 1) := by decide +kernel
theorem dC_needed_24 : decode bC_needed 24 = .ok (.iload_n 1, 1) := by decide +kernel
theorem dC_needed_25 : decode bC_needed 25 = .ok (.iload_n 3, 1) := by decide +kernel
theorem dC_needed_26 : decode bC_needed 26 = .ok (.invokevirtual 34, 3) := by decide +kernel
theorem dC_needed_29 : decode bC_needed 29 = .ok (.ifCond .eq 16, 3) := by decide +kernel
theorem dC_needed_32 : decode bC_needed 32 = .ok (.iload_n 2, 1) := by decide +kernel
theorem dC_needed_33 : decode bC_needed 33 = .ok (.iconst 1, 1) := by decide +kernel
theorem dC_needed_34 : decode bC_needed 34 = .ok (.aload_n 0, 1) := by decide +kernel
theorem dC_needed_35 : decode bC_needed 35 = .ok (.getfield 11, 3) := by decide +kernel
theorem dC_needed_38 : decode bC_needed 38 = .ok (.iload_n 3, 1) := by decide +kernel
theorem dC_needed_39 : decode bC_needed 39 = .ok (.aaload, 1) := by decide +kernel
theorem dC_needed_40 : decode bC_needed 40 = .ok (.iload_n 1, 1) := by decide +kernel
theorem dC_needed_41 : decode bC_needed 41 = .ok (.iaload, 1) := by decide +kernel
theorem dC_needed_42 : decode bC_needed 42 = .ok (.ishl, 1) := by decide +kernel
theorem dC_needed_43 : decode bC_needed 43 = .ok (.ior, 1) := by decide +kernel
theorem dC_needed_44 : decode bC_needed 44 = .ok (.istore_n 2, 1) := by decide +kernel
theorem dC_needed_45 : decode bC_needed 45 = .ok (.iinc 3 1, 3) := by decide +kernel
theorem dC_needed_48 : decode bC_needed 48 = .ok (.goto (-30), 3) := by decide +kernel
theorem dC_needed_51 : decode bC_needed 51 = .ok (.iload_n 2, 1) := by decide +kernel
theorem dC_needed_52 : decode bC_needed 52 = .ok (.ireturn, 1) := by decide +kernel
theorem dK_find_0 : decode bK_find 0 = .ok (.iconst 0, 1) := by decide +kernel
theorem dK_find_1 : decode bK_find 1 = .ok (.istore_n 3, 1) := by decide +kernel
theorem dK_find_2 : decode bK_find 2 = .ok (.iload_n 3, 1) := by decide +kernel
theorem dK_find_3 : decode bK_find 3 = .ok (.bipush 9, 2) := by decide +kernel
theorem dK_find_5 : decode bK_find 5 = .ok (.if_icmp .ge 38, 3) := by decide +kernel
theorem dK_find_8 : decode bK_find 8 = .ok (.aload_n 0, 1) := by decide +kernel
theorem dK_find_9 : decode bK_find 9 = .ok (.getfield 13, 3) := by decide +kernel
theorem dK_find_12 : decode bK_find 12 = .ok (.iload_n 3, 1) := by decide +kernel
theorem dK_find_13 : decode bK_find 13 = .ok (.aaload, 1) := by decide +kernel
theorem dK_find_14 : decode bK_find 14 = .ok (.iconst 0, 1) := by decide +kernel
theorem dK_find_15 : decode bK_find 15 = .ok (.iload_n 3, 1) := by decide +kernel
theorem dK_find_16 : decode bK_find 16 = .ok (.bipush 6, 2) := by decide +kernel
theorem dK_find_18 : decode bK_find 18 = .ok (.if_icmp .ge 8, 3) := by decide +kernel
theorem dK_find_21 : decode bK_find 21 = .ok (.bipush 127, 2) := by decide +kernel
theorem dK_find_23 : decode bK_find 23 = .ok (.goto 4, 3) := by decide +kernel
theorem dK_find_26 : decode bK_find 26 = .ok (.iconst 0, 1) := by decide +kernel
theorem dK_find_27 : decode bK_find 27 = .ok (.iastore, 1) := by decide +kernel
theorem dK_find_28 : decode bK_find 28 = .ok (.aload_n 0, 1) := by decide +kernel
theorem dK_find_29 : decode bK_find 29 = .ok (.getfield 16, 3) := by decide +kernel
theorem dK_find_32 : decode bK_find 32 = .ok (.iload_n 3, 1) := by decide +kernel
theorem dK_find_33 : decode bK_find 33 = .ok (.aaload, 1) := by decide +kernel
theorem dK_find_34 : decode bK_find 34 = .ok (.iconst 0, 1) := by decide +kernel
theorem dK_find_35 : decode bK_find 35 = .ok (.iconst 0, 1) := by decide +kernel
theorem dK_find_36 : decode bK_find 36 = .ok (.iastore, 1) := by decide +kernel
theorem dK_find_37 : decode bK_find 37 = .ok (.iinc 3 1, 3) := by decide +kernel
theorem dK_find_40 : decode bK_find 40 = .ok (.goto (-38), 3) := by decide +kernel
theorem dK_find_43 : decode bK_find 43 = .ok (.aload_n 0, 1) := by decide +kernel
theorem dK_find_44 : decode bK_find 44 = .ok (.aload_n 1, 1) := by decide +kernel
theorem dK_find_45 : decode bK_find 45 = .ok (.aload_n 2, 1) := by decide +kernel
theorem dK_find_46 : decode bK_find 46 = .ok (.invokevirtual 26, 3) := by decide +kernel
theorem dK_find_49 : decode bK_find 49 = .ok (.return_, 1) := by decide +kernel
theorem dR_begin_0 : decode bR_begin 0 = .ok (.aload_n 0, 1) := by decide +kernel
theorem dR_begin_1 : decode bR_begin 1 = .ok (.getfield 12, 3) := by decide +kernel
theorem dR_begin_4 : decode bR_begin 4 = .ok (.invokevirtual 36, 3) := by decide +kernel
theorem dR_begin_7 : decode bR_begin 7 = .ok (.aload_n 0, 1) := by decide +kernel
theorem dR_begin_8 : decode bR_begin 8 = .ok (.getfield 18, 3) := by decide +kernel
theorem dR_begin_11 : decode bR_begin 11 = .ok (.invokevirtual 36, 3) := by decide +kernel
theorem dR_begin_14 : decode bR_begin 14 = .ok (.iconst 0, 1) := by decide +kernel
theorem dR_begin_15 : decode bR_begin 15 = .ok (.istore_n 1, 1) := by decide +kernel
theorem dR_begin_16 : decode bR_begin 16 = .ok (.iload_n 1, 1) := by decide +kernel
theorem dR_begin_17 : decode bR_begin 17 = .ok (.iconst 3, 1) := by decide +kernel
theorem dR_begin_18 : decode bR_begin 18 = .ok (.if_icmp .ge 16, 3) := by decide +kernel
theorem dR_begin_21 : decode bR_begin 21 = .ok (.aload_n 0, 1) := by decide +kernel
theorem dR_begin_22 : decode bR_begin 22 = .ok (.getfield 25, 3) := by decide +kernel
theorem dR_begin_25 : decode bR_begin 25 = .ok (.iload_n 1, 1) := by decide +kernel
theorem dR_begin_26 : decode bR_begin 26 = .ok (.iconst 0, 1) := by decide +kernel
theorem dR_begin_27 : decode bR_begin 27 = .ok (.bastore, 1) := by decide +kernel
theorem dR_begin_28 : decode bR_begin 28 = .ok (.iinc 1 1, 3) := by decide +kernel
theorem dR_begin_31 : decode bR_begin 31 = .ok (.goto (-15), 3) := by decide +kernel
theorem dR_begin_34 : decode bR_begin 34 = .ok (.aload_n 0, 1) := by decide +kernel
theorem dR_begin_35 : decode bR_begin 35 = .ok (.iconst 0, 1) := by decide +kernel
theorem dR_begin_36 : decode bR_begin 36 = .ok (.putfield 29, 3) := by decide +kernel
theorem dR_begin_39 : decode bR_begin 39 = .ok (.aload_n 0, 1) := by decide +kernel
theorem dR_begin_40 : decode bR_begin 40 = .ok (.iconst 0, 1) := by decide +kernel
theorem dR_begin_41 : decode bR_begin 41 = .ok (.putfield 33, 3) := by decide +kernel
theorem dR_begin_44 : decode bR_begin 44 = .ok (.return_, 1) := by decide +kernel
theorem dM_begin_0 : decode bM_begin 0 = .ok (.aload_n 0, 1) := by decide +kernel
theorem dM_begin_1 : decode bM_begin 1 = .ok (.getfield 9, 3) := by decide +kernel
theorem dM_begin_4 : decode bM_begin 4 = .ok (.iconst 0, 1) := by decide +kernel
theorem dM_begin_5 : decode bM_begin 5 = .ok (.invokestatic 22, 3) := by decide +kernel
theorem dM_begin_8 : decode bM_begin 8 = .ok (.aload_n 0, 1) := by decide +kernel
theorem dM_begin_9 : decode bM_begin 9 = .ok (.iconst 0, 1) := by decide +kernel
theorem dM_begin_10 : decode bM_begin 10 = .ok (.putfield 18, 3) := by decide +kernel
theorem dM_begin_13 : decode bM_begin 13 = .ok (.return_, 1) := by decide +kernel
theorem dT_set_0 : decode bT_set 0 = .ok (.iload_n 1, 1) := by decide +kernel
theorem dT_set_1 : decode bT_set 1 = .ok (.invokestatic 44, 3) := by decide +kernel
theorem dT_set_4 : decode bT_set 4 = .ok (.invokestatic 48, 3) := by decide +kernel
theorem dT_set_7 : decode bT_set 7 = .ok (.aload_n 0, 1) := by decide +kernel
theorem dT_set_8 : decode bT_set 8 = .ok (.iconst 0, 1) := by decide +kernel
theorem dT_set_9 : decode bT_set 9 = .ok (.iload_n 1, 1) := by decide +kernel
theorem dT_set_10 : decode bT_set 10 = .ok (.iload_n 2, 1) := by decide +kernel
theorem dT_set_11 : decode bT_set 11 = .ok (.iconst 0, 1) := by decide +kernel
theorem dT_set_12 : decode bT_set 12 = .ok (.invokevirtual 52, 3) := by decide +kernel
theorem dT_set_15 : decode bT_set 15 = .ok (.ireturn, 1) := by decide +kernel
theorem dT_isRegister_0 : decode bT_isRegister 0 = .ok (.iload_n 0, 1) := by decide +kernel
theorem dT_isRegister_1 : decode bT_isRegister 1 = .ok (.bipush 6, 2) := by decide +kernel
theorem dT_isRegister_3 : decode bT_isRegister 3 = .ok (.invokestatic 56, 3) := by decide +kernel
theorem dT_isRegister_6 : decode bT_isRegister 6 = .ok (.ireturn, 1) := by decide +kernel
theorem dT_isBelow_0 : decode bT_isBelow 0 = .ok (.iload_n 0, 1) := by decide +kernel
theorem dT_isBelow_1 : decode bT_isBelow 1 = .ok (.ifCond .lt 12, 3) := by decide +kernel
theorem dT_isBelow_4 : decode bT_isBelow 4 = .ok (.iload_n 0, 1) := by decide +kernel
theorem dT_isBelow_5 : decode bT_isBelow 5 = .ok (.iload_n 1, 1) := by decide +kernel
theorem dT_isBelow_6 : decode bT_isBelow 6 = .ok (.if_icmp .ge 7, 3) := by decide +kernel
theorem dT_isBelow_9 : decode bT_isBelow 9 = .ok (.iconst 1, 1) := by decide +kernel
theorem dT_isBelow_10 : decode bT_isBelow 10 = .ok (.goto 4, 3) := by decide +kernel
theorem dT_isBelow_13 : decode bT_isBelow 13 = .ok (.iconst 0, 1) := by decide +kernel
theorem dT_isBelow_14 : decode bT_isBelow 14 = .ok (.ireturn, 1) := by decide +kernel
theorem dT_requireArgument_0 : decode bT_requireArgument 0 = .ok (.iload_n 0, 1) := by decide +kernel
theorem dT_requireArgument_1 : decode bT_requireArgument 1 = .ok (.ifCond .ne 11, 3) := by decide +kernel
theorem dT_requireArgument_4 : decode bT_requireArgument 4 = .ok (.new 151, 3) := by decide +kernel
theorem dT_requireArgument_7 : decode bT_requireArgument 7 = .ok (.dup, 1) := by decide +kernel
theorem dT_requireArgument_8 : decode bT_requireArgument 8 = .ok (.invokespecial 153, 3) := by decide +kernel
theorem dT_requireArgument_11 : decode bT_requireArgument 11 = .ok (.athrow, 1) := by decide +kernel
theorem dT_requireArgument_12 : decode bT_requireArgument 12 = .ok (.return_, 1) := by decide +kernel
theorem dT_newLine_0 : decode bT_newLine 0 = .ok (.aload_n 0, 1) := by decide +kernel
theorem dT_newLine_1 : decode bT_newLine 1 = .ok (.getfield 12, 3) := by decide +kernel
theorem dT_newLine_4 : decode bT_newLine 4 = .ok (.invokevirtual 88, 3) := by decide +kernel
theorem dT_newLine_7 : decode bT_newLine 7 = .ok (.bipush 16, 2) := by decide +kernel
theorem dT_newLine_9 : decode bT_newLine 9 = .ok (.if_icmp .ge 7, 3) := by decide +kernel
theorem dT_newLine_12 : decode bT_newLine 12 = .ok (.iconst 1, 1) := by decide +kernel
theorem dT_newLine_13 : decode bT_newLine 13 = .ok (.goto 4, 3) := by decide +kernel
theorem dT_newLine_16 : decode bT_newLine 16 = .ok (.iconst 0, 1) := by decide +kernel
theorem dT_newLine_17 : decode bT_newLine 17 = .ok (.invokestatic 133, 3) := by decide +kernel
theorem dT_newLine_20 : decode bT_newLine 20 = .ok (.aload_n 0, 1) := by decide +kernel
theorem dT_newLine_21 : decode bT_newLine 21 = .ok (.iconst 0, 1) := by decide +kernel
theorem dT_newLine_22 : decode bT_newLine 22 = .ok (.putfield 40, 3) := by decide +kernel
theorem dT_newLine_25 : decode bT_newLine 25 = .ok (.aload_n 0, 1) := by decide +kernel
theorem dT_newLine_26 : decode bT_newLine 26 = .ok (.getfield 12, 3) := by decide +kernel
theorem dT_newLine_29 : decode bT_newLine 29 = .ok (.iload_n 1, 1) := by decide +kernel
theorem dT_newLine_30 : decode bT_newLine 30 = .ok (.iload_n 2, 1) := by decide +kernel
theorem dT_newLine_31 : decode bT_newLine 31 = .ok (.iload_n 3, 1) := by decide +kernel
theorem dT_newLine_32 : decode bT_newLine 32 = .ok (.iload 4, 2) := by decide +kernel
theorem dT_newLine_34 : decode bT_newLine 34 = .ok (.invokevirtual 145, 3) := by decide +kernel
theorem dT_newLine_37 : decode bT_newLine 37 = .ok (.ireturn, 1) := by decide +kernel
theorem dT_requireState_0 : decode bT_requireState 0 = .ok (.iload_n 0, 1) := by decide +kernel
theorem dT_requireState_1 : decode bT_requireState 1 = .ok (.ifCond .ne 11, 3) := by decide +kernel
theorem dT_requireState_4 : decode bT_requireState 4 = .ok (.new 148, 3) := by decide +kernel
theorem dT_requireState_7 : decode bT_requireState 7 = .ok (.dup, 1) := by decide +kernel
theorem dT_requireState_8 : decode bT_requireState 8 = .ok (.invokespecial 150, 3) := by decide +kernel
theorem dT_requireState_11 : decode bT_requireState 11 = .ok (.athrow, 1) := by decide +kernel
theorem dT_requireState_12 : decode bT_requireState 12 = .ok (.return_, 1) := by decide +kernel
theorem dC_append_0 : decode bC_append 0 = .ok (.aload_n 0, 1) := by decide +kernel
theorem dC_append_1 : decode bC_append 1 = .ok (.getfield 16, 3) := by decide +kernel
theorem dC_append_4 : decode bC_append 4 = .ok (.istore 5, 2) := by decide +kernel
theorem dC_append_6 : decode bC_append 6 = .ok (.aload_n 0, 1) := by decide +kernel
theorem dC_append_7 : decode bC_append 7 = .ok (.getfield 11, 3) := by decide +kernel
theorem dC_append_10 : decode bC_append 10 = .ok (.iconst 0, 1) := by decide +kernel
theorem dC_append_11 : decode bC_append 11 = .ok (.aaload, 1) := by decide +kernel
theorem dC_append_12 : decode bC_append 12 = .ok (.iload 5, 2) := by decide +kernel
theorem dC_append_14 : decode bC_append 14 = .ok (.iload_n 1, 1) := by decide +kernel
theorem dC_append_15 : decode bC_append 15 = .ok (.iastore, 1) := by decide +kernel
theorem dC_append_16 : decode bC_append 16 = .ok (.aload_n 0, 1) := by decide +kernel
theorem dC_append_17 : decode bC_append 17 = .ok (.getfield 11, 3) := by decide +kernel
theorem dC_append_20 : decode bC_append 20 = .ok (.iconst 1, 1) := by decide +kernel
theorem dC_append_21 : decode bC_append 21 = .ok (.aaload, 1) := by decide +kernel
theorem dC_append_22 : decode bC_append 22 = .ok (.iload 5, 2) := by decide +kernel
theorem dC_append_24 : decode bC_append 24 = .ok (.iload_n 2, 1) := by decide +kernel
theorem dC_append_25 : decode bC_append 25 = .ok (.iastore, 1) := by decide +kernel
theorem dC_append_26 : decode bC_append 26 = .ok (.aload_n 0, 1) := by decide +kernel
theorem dC_append_27 : decode bC_append 27 = .ok (.getfield 11, 3) := by decide +kernel
theorem dC_append_30 : decode bC_append 30 = .ok (.iconst 2, 1) := by decide +kernel
theorem dC_append_31 : decode bC_append 31 = .ok (.aaload, 1) := by decide +kernel
theorem dC_append_32 : decode bC_append 32 = .ok (.iload 5, 2) := by decide +kernel
theorem dC_append_34 : decode bC_append 34 = .ok (.iload_n 3, 1) := by decide +kernel
theorem dC_append_35 : decode bC_append 35 = .ok (.iastore, 1) := by decide +kernel
theorem dC_append_36 : decode bC_append 36 = .ok (.aload_n 0, 1) := by decide +kernel
theorem dC_append_37 : decode bC_append 37 = .ok (.getfield 11, 3) := by decide +kernel
theorem dC_append_40 : decode bC_append 40 = .ok (.iconst 3, 1) := by decide +kernel
theorem dC_append_41 : decode bC_append 41 = .ok (.aaload, 1) := by decide +kernel
theorem dC_append_42 : decode bC_append 42 = .ok (.iload 5, 2) := by decide +kernel
theorem dC_append_44 : decode bC_append 44 = .ok (.iload 4, 2) := by decide +kernel
theorem dC_append_46 : decode bC_append 46 = .ok (.iastore, 1) := by decide +kernel
theorem dC_append_47 : decode bC_append 47 = .ok (.aload_n 0, 1) := by decide +kernel
theorem dC_append_48 : decode bC_append 48 = .ok (.iload 5, 2) := by decide +kernel
theorem dC_append_50 : decode bC_append 50 = .ok (.iconst 1, 1) := by decide +kernel
theorem dC_append_51 : decode bC_append 51 = .ok (.iadd, 1) := by decide +kernel
theorem dC_append_52 : decode bC_append 52 = .ok (.putfield 16, 3) := by decide +kernel
theorem dC_append_55 : decode bC_append 55 = .ok (.iload 5, 2) := by decide +kernel
theorem dC_append_57 : decode bC_append 57 = .ok (.ireturn, 1) := by decide +kernel
theorem dT_copy_0 : decode bT_copy 0 = .ok (.iload_n 1, 1) := by decide +kernel
theorem dT_copy_1 : decode bT_copy 1 = .ok (.invokestatic 44, 3) := by decide +kernel
theorem dT_copy_4 : decode bT_copy 4 = .ok (.ifCond .eq 14, 3) := by decide +kernel
theorem dT_copy_7 : decode bT_copy 7 = .ok (.iload_n 2, 1) := by decide +kernel
theorem dT_copy_8 : decode bT_copy 8 = .ok (.invokestatic 44, 3) := by decide +kernel
theorem dT_copy_11 : decode bT_copy 11 = .ok (.ifCond .eq 7, 3) := by decide +kernel
theorem dT_copy_14 : decode bT_copy 14 = .ok (.iconst 1, 1) := by decide +kernel
theorem dT_copy_15 : decode bT_copy 15 = .ok (.goto 4, 3) := by decide +kernel
theorem dT_copy_18 : decode bT_copy 18 = .ok (.iconst 0, 1) := by decide +kernel
theorem dT_copy_19 : decode bT_copy 19 = .ok (.invokestatic 48, 3) := by decide +kernel
theorem dT_copy_22 : decode bT_copy 22 = .ok (.aload_n 0, 1) := by decide +kernel
theorem dT_copy_23 : decode bT_copy 23 = .ok (.iconst 1, 1) := by decide +kernel
theorem dT_copy_24 : decode bT_copy 24 = .ok (.iload_n 1, 1) := by decide +kernel
theorem dT_copy_25 : decode bT_copy 25 = .ok (.iload_n 2, 1) := by decide +kernel
theorem dT_copy_26 : decode bT_copy 26 = .ok (.iconst 0, 1) := by decide +kernel
theorem dT_copy_27 : decode bT_copy 27 = .ok (.invokevirtual 52, 3) := by decide +kernel
theorem dT_copy_30 : decode bT_copy 30 = .ok (.ireturn, 1) := by decide +kernel
theorem dT_add_0 : decode bT_add 0 = .ok (.iload_n 1, 1) := by decide +kernel
theorem dT_add_1 : decode bT_add 1 = .ok (.invokestatic 44, 3) := by decide +kernel
theorem dT_add_4 : decode bT_add 4 = .ok (.ifCond .eq 21, 3) := by decide +kernel
theorem dT_add_7 : decode bT_add 7 = .ok (.iload_n 2, 1) := by decide +kernel
theorem dT_add_8 : decode bT_add 8 = .ok (.invokestatic 44, 3) := by decide +kernel
theorem dT_add_11 : decode bT_add 11 = .ok (.ifCond .eq 14, 3) := by decide +kernel
theorem dT_add_14 : decode bT_add 14 = .ok (.iload_n 3, 1) := by decide +kernel
theorem dT_add_15 : decode bT_add 15 = .ok (.invokestatic 44, 3) := by decide +kernel
theorem dT_add_18 : decode bT_add 18 = .ok (.ifCond .eq 7, 3) := by decide +kernel
theorem dT_add_21 : decode bT_add 21 = .ok (.iconst 1, 1) := by decide +kernel
theorem dT_add_22 : decode bT_add 22 = .ok (.goto 4, 3) := by decide +kernel
theorem dT_add_25 : decode bT_add 25 = .ok (.iconst 0, 1) := by decide +kernel
theorem dT_add_26 : decode bT_add 26 = .ok (.invokestatic 48, 3) := by decide +kernel
theorem dT_add_29 : decode bT_add 29 = .ok (.aload_n 0, 1) := by decide +kernel
theorem dT_add_30 : decode bT_add 30 = .ok (.iconst 2, 1) := by decide +kernel
theorem dT_add_31 : decode bT_add 31 = .ok (.iload_n 1, 1) := by decide +kernel
theorem dT_add_32 : decode bT_add 32 = .ok (.iload_n 2, 1) := by decide +kernel
theorem dT_add_33 : decode bT_add 33 = .ok (.iload_n 3, 1) := by decide +kernel
theorem dT_add_34 : decode bT_add 34 = .ok (.invokevirtual 52, 3) := by decide +kernel
theorem dT_add_37 : decode bT_add 37 = .ok (.ireturn, 1) := by decide +kernel
theorem dT_out_0 : decode bT_out 0 = .ok (.iload_n 1, 1) := by decide +kernel
theorem dT_out_1 : decode bT_out 1 = .ok (.invokestatic 44, 3) := by decide +kernel
theorem dT_out_4 : decode bT_out 4 = .ok (.invokestatic 48, 3) := by decide +kernel
theorem dT_out_7 : decode bT_out 7 = .ok (.aload_n 0, 1) := by decide +kernel
theorem dT_out_8 : decode bT_out 8 = .ok (.iconst 3, 1) := by decide +kernel
theorem dT_out_9 : decode bT_out 9 = .ok (.iload_n 1, 1) := by decide +kernel
theorem dT_out_10 : decode bT_out 10 = .ok (.iconst 0, 1) := by decide +kernel
theorem dT_out_11 : decode bT_out 11 = .ok (.iconst 0, 1) := by decide +kernel
theorem dT_out_12 : decode bT_out 12 = .ok (.invokevirtual 52, 3) := by decide +kernel
theorem dT_out_15 : decode bT_out 15 = .ok (.ireturn, 1) := by decide +kernel
theorem dT_jump_0 : decode bT_jump 0 = .ok (.iload_n 1, 1) := by decide +kernel
theorem dT_jump_1 : decode bT_jump 1 = .ok (.invokestatic 44, 3) := by decide +kernel
theorem dT_jump_4 : decode bT_jump 4 = .ok (.ifCond .eq 16, 3) := by decide +kernel
theorem dT_jump_7 : decode bT_jump 7 = .ok (.iload_n 2, 1) := by decide +kernel
theorem dT_jump_8 : decode bT_jump 8 = .ok (.bipush 17, 2) := by decide +kernel
theorem dT_jump_10 : decode bT_jump 10 = .ok (.invokestatic 56, 3) := by decide +kernel
theorem dT_jump_13 : decode bT_jump 13 = .ok (.ifCond .eq 7, 3) := by decide +kernel
theorem dT_jump_16 : decode bT_jump 16 = .ok (.iconst 1, 1) := by decide +kernel
theorem dT_jump_17 : decode bT_jump 17 = .ok (.goto 4, 3) := by decide +kernel
theorem dT_jump_20 : decode bT_jump 20 = .ok (.iconst 0, 1) := by decide +kernel
theorem dT_jump_21 : decode bT_jump 21 = .ok (.invokestatic 48, 3) := by decide +kernel
theorem dT_jump_24 : decode bT_jump 24 = .ok (.aload_n 0, 1) := by decide +kernel
theorem dT_jump_25 : decode bT_jump 25 = .ok (.iconst 4, 1) := by decide +kernel
theorem dT_jump_26 : decode bT_jump 26 = .ok (.iload_n 1, 1) := by decide +kernel
theorem dT_jump_27 : decode bT_jump 27 = .ok (.iload_n 2, 1) := by decide +kernel
theorem dT_jump_28 : decode bT_jump 28 = .ok (.iconst 0, 1) := by decide +kernel
theorem dT_jump_29 : decode bT_jump 29 = .ok (.invokevirtual 52, 3) := by decide +kernel
theorem dT_jump_32 : decode bT_jump 32 = .ok (.ireturn, 1) := by decide +kernel
theorem dT_name_0 : decode bT_name 0 = .ok (.iload_n 1, 1) := by decide +kernel
theorem dT_name_1 : decode bT_name 1 = .ok (.invokestatic 60, 3) := by decide +kernel
theorem dT_name_4 : decode bT_name 4 = .ok (.ifCond .eq 14, 3) := by decide +kernel
theorem dT_name_7 : decode bT_name 7 = .ok (.iload_n 2, 1) := by decide +kernel
theorem dT_name_8 : decode bT_name 8 = .ok (.invokestatic 44, 3) := by decide +kernel
theorem dT_name_11 : decode bT_name 11 = .ok (.ifCond .eq 7, 3) := by decide +kernel
theorem dT_name_14 : decode bT_name 14 = .ok (.iconst 1, 1) := by decide +kernel
theorem dT_name_15 : decode bT_name 15 = .ok (.goto 4, 3) := by decide +kernel
theorem dT_name_18 : decode bT_name 18 = .ok (.iconst 0, 1) := by decide +kernel
theorem dT_name_19 : decode bT_name 19 = .ok (.invokestatic 48, 3) := by decide +kernel
theorem dT_name_22 : decode bT_name 22 = .ok (.aload_n 0, 1) := by decide +kernel
theorem dT_name_23 : decode bT_name 23 = .ok (.iconst 5, 1) := by decide +kernel
theorem dT_name_24 : decode bT_name 24 = .ok (.iload_n 1, 1) := by decide +kernel
theorem dT_name_25 : decode bT_name 25 = .ok (.iload_n 2, 1) := by decide +kernel
theorem dT_name_26 : decode bT_name 26 = .ok (.iconst 0, 1) := by decide +kernel
theorem dT_name_27 : decode bT_name 27 = .ok (.invokevirtual 52, 3) := by decide +kernel
theorem dT_name_30 : decode bT_name 30 = .ok (.ireturn, 1) := by decide +kernel
theorem dT_isVariable_0 : decode bT_isVariable 0 = .ok (.iload_n 0, 1) := by decide +kernel
theorem dT_isVariable_1 : decode bT_isVariable 1 = .ok (.iconst 3, 1) := by decide +kernel
theorem dT_isVariable_2 : decode bT_isVariable 2 = .ok (.invokestatic 56, 3) := by decide +kernel
theorem dT_isVariable_5 : decode bT_isVariable 5 = .ok (.ireturn, 1) := by decide +kernel
theorem dT_kept_0 : decode bT_kept 0 = .ok (.aload_n 0, 1) := by decide +kernel
theorem dT_kept_1 : decode bT_kept 1 = .ok (.invokevirtual 81, 3) := by decide +kernel
theorem dT_kept_4 : decode bT_kept 4 = .ok (.aload_n 0, 1) := by decide +kernel
theorem dT_kept_5 : decode bT_kept 5 = .ok (.getfield 16, 3) := by decide +kernel
theorem dT_kept_8 : decode bT_kept 8 = .ok (.invokevirtual 84, 3) := by decide +kernel
theorem dT_kept_11 : decode bT_kept 11 = .ok (.ireturn, 1) := by decide +kernel
theorem dT_requireShortProgram_0 : decode bT_requireShortProgram 0 = .ok (.aload_n 0, 1) := by decide +kernel
theorem dT_requireShortProgram_1 : decode bT_requireShortProgram 1 = .ok (.getfield 40, 3) := by decide +kernel
theorem dT_requireShortProgram_4 : decode bT_requireShortProgram 4 = .ok (.invokestatic 133, 3) := by decide +kernel
theorem dT_requireShortProgram_7 : decode bT_requireShortProgram 7 = .ok (.return_, 1) := by decide +kernel
theorem dC_fullLines_0 : decode bC_fullLines 0 = .ok (.iconst 0, 1) := by decide +kernel
theorem dC_fullLines_1 : decode bC_fullLines 1 = .ok (.istore_n 1, 1) := by decide +kernel
theorem dC_fullLines_2 : decode bC_fullLines 2 = .ok (.iconst 0, 1) := by decide +kernel
theorem dC_fullLines_3 : decode bC_fullLines 3 = .ok (.istore_n 2, 1) := by decide +kernel
theorem dC_fullLines_4 : decode bC_fullLines 4 = .ok (.iload_n 2, 1) := by decide +kernel
theorem dC_fullLines_5 : decode bC_fullLines 5 = .ok (.aload_n 0, 1) := by decide +kernel
theorem dC_fullLines_6 : decode bC_fullLines 6 = .ok (.getfield 16, 3) := by decide +kernel
theorem dC_fullLines_9 : decode bC_fullLines 9 = .ok (.if_icmp .ge 20, 3) := by decide +kernel
theorem dC_fullLines_12 : decode bC_fullLines 12 = .ok (.aload_n 0, 1) := by decide +kernel
theorem dC_fullLines_13 : decode bC_fullLines 13 = .ok (.iload_n 2, 1) := by decide +kernel
theorem dC_fullLines_14 : decode bC_fullLines 14 = .ok (.invokevirtual 26, 3) := by decide +kernel
theorem dC_fullLines_17 : decode bC_fullLines 17 = .ok (.ifCond .ne 6, 3) := by decide +kernel
theorem dC_fullLines_20 : decode bC_fullLines 20 = .ok (.iinc 1 1, 3) := by decide +kernel
theorem dC_fullLines_23 : decode bC_fullLines 23 = .ok (.iinc 2 1, 3) := by decide +kernel
theorem dC_fullLines_26 : decode bC_fullLines 26 = .ok (.goto (-22), 3) := by decide +kernel
theorem dC_fullLines_29 : decode bC_fullLines 29 = .ok (.iload_n 1, 1) := by decide +kernel
theorem dC_fullLines_30 : decode bC_fullLines 30 = .ok (.ireturn, 1) := by decide +kernel
theorem dT_part_0 : decode bT_part 0 = .ok (.aload_n 0, 1) := by decide +kernel
theorem dT_part_1 : decode bT_part 1 = .ok (.invokevirtual 81, 3) := by decide +kernel
theorem dT_part_4 : decode bT_part 4 = .ok (.iload_n 1, 1) := by decide +kernel
theorem dT_part_5 : decode bT_part 5 = .ok (.aload_n 0, 1) := by decide +kernel
theorem dT_part_6 : decode bT_part 6 = .ok (.getfield 16, 3) := by decide +kernel
theorem dT_part_9 : decode bT_part 9 = .ok (.invokevirtual 88, 3) := by decide +kernel
theorem dT_part_12 : decode bT_part 12 = .ok (.invokestatic 56, 3) := by decide +kernel
theorem dT_part_15 : decode bT_part 15 = .ok (.ifCond .eq 15, 3) := by decide +kernel
theorem dT_part_18 : decode bT_part 18 = .ok (.iload_n 2, 1) := by decide +kernel
theorem dT_part_19 : decode bT_part 19 = .ok (.iconst 4, 1) := by decide +kernel
theorem dT_part_20 : decode bT_part 20 = .ok (.invokestatic 56, 3) := by decide +kernel
theorem dT_part_23 : decode bT_part 23 = .ok (.ifCond .eq 7, 3) := by decide +kernel
theorem dT_part_26 : decode bT_part 26 = .ok (.iconst 1, 1) := by decide +kernel
theorem dT_part_27 : decode bT_part 27 = .ok (.goto 4, 3) := by decide +kernel
theorem dT_part_30 : decode bT_part 30 = .ok (.iconst 0, 1) := by decide +kernel
theorem dT_part_31 : decode bT_part 31 = .ok (.invokestatic 91, 3) := by decide +kernel
theorem dT_part_34 : decode bT_part 34 = .ok (.aload_n 0, 1) := by decide +kernel
theorem dT_part_35 : decode bT_part 35 = .ok (.getfield 16, 3) := by decide +kernel
theorem dT_part_38 : decode bT_part 38 = .ok (.iload_n 1, 1) := by decide +kernel
theorem dT_part_39 : decode bT_part 39 = .ok (.iload_n 2, 1) := by decide +kernel
theorem dT_part_40 : decode bT_part 40 = .ok (.invokevirtual 94, 3) := by decide +kernel
theorem dT_part_43 : decode bT_part 43 = .ok (.ireturn, 1) := by decide +kernel
theorem dT_requireIndex_0 : decode bT_requireIndex 0 = .ok (.iload_n 0, 1) := by decide +kernel
theorem dT_requireIndex_1 : decode bT_requireIndex 1 = .ok (.ifCond .ne 11, 3) := by decide +kernel
theorem dT_requireIndex_4 : decode bT_requireIndex 4 = .ok (.new 154, 3) := by decide +kernel
theorem dT_requireIndex_7 : decode bT_requireIndex 7 = .ok (.dup, 1) := by decide +kernel
theorem dT_requireIndex_8 : decode bT_requireIndex 8 = .ok (.invokespecial 156, 3) := by decide +kernel
theorem dT_requireIndex_11 : decode bT_requireIndex 11 = .ok (.athrow, 1) := by decide +kernel
theorem dT_requireIndex_12 : decode bT_requireIndex 12 = .ok (.return_, 1) := by decide +kernel
theorem dT_where_0 : decode bT_where 0 = .ok (.aload_n 0, 1) := by decide +kernel
theorem dT_where_1 : decode bT_where 1 = .ok (.invokevirtual 81, 3) := by decide +kernel
theorem dT_where_4 : decode bT_where 4 = .ok (.aload_n 0, 1) := by decide +kernel
theorem dT_where_5 : decode bT_where 5 = .ok (.iload_n 1, 1) := by decide +kernel
theorem dT_where_6 : decode bT_where 6 = .ok (.invokevirtual 98, 3) := by decide +kernel
theorem dT_where_9 : decode bT_where 9 = .ok (.ifCond .eq 14, 3) := by decide +kernel
theorem dT_where_12 : decode bT_where 12 = .ok (.iload_n 2, 1) := by decide +kernel
theorem dT_where_13 : decode bT_where 13 = .ok (.invokestatic 60, 3) := by decide +kernel
theorem dT_where_16 : decode bT_where 16 = .ok (.ifCond .eq 7, 3) := by decide +kernel
theorem dT_where_19 : decode bT_where 19 = .ok (.iconst 1, 1) := by decide +kernel
theorem dT_where_20 : decode bT_where 20 = .ok (.goto 4, 3) := by decide +kernel
theorem dT_where_23 : decode bT_where 23 = .ok (.iconst 0, 1) := by decide +kernel
theorem dT_where_24 : decode bT_where 24 = .ok (.invokestatic 91, 3) := by decide +kernel
theorem dT_where_27 : decode bT_where 27 = .ok (.aload_n 0, 1) := by decide +kernel
theorem dT_where_28 : decode bT_where 28 = .ok (.getfield 29, 3) := by decide +kernel
theorem dT_where_31 : decode bT_where 31 = .ok (.iload_n 1, 1) := by decide +kernel
theorem dT_where_32 : decode bT_where 32 = .ok (.iload_n 2, 1) := by decide +kernel
theorem dT_where_33 : decode bT_where 33 = .ok (.invokevirtual 101, 3) := by decide +kernel
theorem dT_where_36 : decode bT_where 36 = .ok (.ireturn, 1) := by decide +kernel
theorem dT_isPoint_0 : decode bT_isPoint 0 = .ok (.iload_n 1, 1) := by decide +kernel
theorem dT_isPoint_1 : decode bT_isPoint 1 = .ok (.aload_n 0, 1) := by decide +kernel
theorem dT_isPoint_2 : decode bT_isPoint 2 = .ok (.getfield 16, 3) := by decide +kernel
theorem dT_isPoint_5 : decode bT_isPoint 5 = .ok (.invokevirtual 88, 3) := by decide +kernel
theorem dT_isPoint_8 : decode bT_isPoint 8 = .ok (.iconst 1, 1) := by decide +kernel
theorem dT_isPoint_9 : decode bT_isPoint 9 = .ok (.iadd, 1) := by decide +kernel
theorem dT_isPoint_10 : decode bT_isPoint 10 = .ok (.invokestatic 56, 3) := by decide +kernel
theorem dT_isPoint_13 : decode bT_isPoint 13 = .ok (.ireturn, 1) := by decide +kernel
theorem dK_placeOfVariable_0 : decode bK_placeOfVariable 0 = .ok (.iconst 0, 1) := by decide +kernel
theorem dK_placeOfVariable_1 : decode bK_placeOfVariable 1 = .ok (.istore_n 3, 1) := by decide +kernel
theorem dK_placeOfVariable_2 : decode bK_placeOfVariable 2 = .ok (.iload_n 3, 1) := by decide +kernel
theorem dK_placeOfVariable_3 : decode bK_placeOfVariable 3 = .ok (.bipush 6, 2) := by decide +kernel
theorem dK_placeOfVariable_5 : decode bK_placeOfVariable 5 = .ok (.if_icmp .gt 29, 3) := by decide +kernel
theorem dK_placeOfVariable_8 : decode bK_placeOfVariable 8 = .ok (.aload_n 0, 1) := by decide +kernel
theorem dK_placeOfVariable_9 : decode bK_placeOfVariable 9 = .ok (.getfield 13, 3) := by decide +kernel
theorem dK_placeOfVariable_12 : decode bK_placeOfVariable 12 = .ok (.bipush 6, 2) := by decide +kernel
theorem dK_placeOfVariable_14 : decode bK_placeOfVariable 14 = .ok (.iload_n 2, 1) := by decide +kernel
theorem dK_placeOfVariable_15 : decode bK_placeOfVariable 15 = .ok (.iadd, 1) := by decide +kernel
theorem dK_placeOfVariable_16 : decode bK_placeOfVariable 16 = .ok (.aaload, 1) := by decide +kernel
theorem dK_placeOfVariable_17 : decode bK_placeOfVariable 17 = .ok (.iload_n 1, 1) := by decide +kernel
theorem dK_placeOfVariable_18 : decode bK_placeOfVariable 18 = .ok (.iaload, 1) := by decide +kernel
theorem dK_placeOfVariable_19 : decode bK_placeOfVariable 19 = .ok (.iload_n 3, 1) := by decide +kernel
theorem dK_placeOfVariable_20 : decode bK_placeOfVariable 20 = .ok (.ishr, 1) := by decide +kernel
theorem dK_placeOfVariable_21 : decode bK_placeOfVariable 21 = .ok (.iconst 1, 1) := by decide +kernel
theorem dK_placeOfVariable_22 : decode bK_placeOfVariable 22 = .ok (.iand, 1) := by decide +kernel
theorem dK_placeOfVariable_23 : decode bK_placeOfVariable 23 = .ok (.ifCond .eq 5, 3) := by decide +kernel
theorem dK_placeOfVariable_26 : decode bK_placeOfVariable 26 = .ok (.iload_n 3, 1) := by decide +kernel
theorem dK_placeOfVariable_27 : decode bK_placeOfVariable 27 = .ok (.ireturn, 1) := by decide +kernel
theorem dK_placeOfVariable_28 : decode bK_placeOfVariable 28 = .ok (.iinc 3 1, 3) := by decide +kernel
theorem dK_placeOfVariable_31 : decode bK_placeOfVariable 31 = .ok (.goto (-29), 3) := by decide +kernel
theorem dK_placeOfVariable_34 : decode bK_placeOfVariable 34 = .ok (.iconst (-1), 1) := by decide +kernel
theorem dK_placeOfVariable_35 : decode bK_placeOfVariable 35 = .ok (.ireturn, 1) := by decide +kernel
theorem dT_carriers_0 : decode bT_carriers 0 = .ok (.aload_n 0, 1) := by decide +kernel
theorem dT_carriers_1 : decode bT_carriers 1 = .ok (.invokevirtual 81, 3) := by decide +kernel
theorem dT_carriers_4 : decode bT_carriers 4 = .ok (.aload_n 0, 1) := by decide +kernel
theorem dT_carriers_5 : decode bT_carriers 5 = .ok (.iload_n 1, 1) := by decide +kernel
theorem dT_carriers_6 : decode bT_carriers 6 = .ok (.invokevirtual 98, 3) := by decide +kernel
theorem dT_carriers_9 : decode bT_carriers 9 = .ok (.ifCond .eq 14, 3) := by decide +kernel
theorem dT_carriers_12 : decode bT_carriers 12 = .ok (.iload_n 2, 1) := by decide +kernel
theorem dT_carriers_13 : decode bT_carriers 13 = .ok (.invokestatic 44, 3) := by decide +kernel
theorem dT_carriers_16 : decode bT_carriers 16 = .ok (.ifCond .eq 7, 3) := by decide +kernel
theorem dT_carriers_19 : decode bT_carriers 19 = .ok (.iconst 1, 1) := by decide +kernel
theorem dT_carriers_20 : decode bT_carriers 20 = .ok (.goto 4, 3) := by decide +kernel
theorem dT_carriers_23 : decode bT_carriers 23 = .ok (.iconst 0, 1) := by decide +kernel
theorem dT_carriers_24 : decode bT_carriers 24 = .ok (.invokestatic 91, 3) := by decide +kernel
theorem dT_carriers_27 : decode bT_carriers 27 = .ok (.aload_n 0, 1) := by decide +kernel
theorem dT_carriers_28 : decode bT_carriers 28 = .ok (.getfield 29, 3) := by decide +kernel
theorem dT_carriers_31 : decode bT_carriers 31 = .ok (.iload_n 1, 1) := by decide +kernel
theorem dT_carriers_32 : decode bT_carriers 32 = .ok (.iload_n 2, 1) := by decide +kernel
theorem dT_carriers_33 : decode bT_carriers 33 = .ok (.invokevirtual 104, 3) := by decide +kernel
theorem dT_carriers_36 : decode bT_carriers 36 = .ok (.ireturn, 1) := by decide +kernel
theorem dK_ofRegister_0 : decode bK_ofRegister 0 = .ok (.aload_n 0, 1) := by decide +kernel
theorem dK_ofRegister_1 : decode bK_ofRegister 1 = .ok (.getfield 13, 3) := by decide +kernel
theorem dK_ofRegister_4 : decode bK_ofRegister 4 = .ok (.iload_n 2, 1) := by decide +kernel
theorem dK_ofRegister_5 : decode bK_ofRegister 5 = .ok (.aaload, 1) := by decide +kernel
theorem dK_ofRegister_6 : decode bK_ofRegister 6 = .ok (.iload_n 1, 1) := by decide +kernel
theorem dK_ofRegister_7 : decode bK_ofRegister 7 = .ok (.iaload, 1) := by decide +kernel
theorem dK_ofRegister_8 : decode bK_ofRegister 8 = .ok (.bipush 63, 2) := by decide +kernel
theorem dK_ofRegister_10 : decode bK_ofRegister 10 = .ok (.iand, 1) := by decide +kernel
theorem dK_ofRegister_11 : decode bK_ofRegister 11 = .ok (.ireturn, 1) := by decide +kernel
theorem dT_restart_0 : decode bT_restart 0 = .ok (.aload_n 0, 1) := by decide +kernel
theorem dT_restart_1 : decode bT_restart 1 = .ok (.invokevirtual 81, 3) := by decide +kernel
theorem dT_restart_4 : decode bT_restart 4 = .ok (.aload_n 0, 1) := by decide +kernel
theorem dT_restart_5 : decode bT_restart 5 = .ok (.getfield 36, 3) := by decide +kernel
theorem dT_restart_8 : decode bT_restart 8 = .ok (.invokevirtual 78, 3) := by decide +kernel
theorem dT_restart_11 : decode bT_restart 11 = .ok (.return_, 1) := by decide +kernel
theorem dT_step_0 : decode bT_step 0 = .ok (.aload_n 0, 1) := by decide +kernel
theorem dT_step_1 : decode bT_step 1 = .ok (.invokevirtual 81, 3) := by decide +kernel
theorem dT_step_4 : decode bT_step 4 = .ok (.aload_n 0, 1) := by decide +kernel
theorem dT_step_5 : decode bT_step 5 = .ok (.getfield 36, 3) := by decide +kernel
theorem dT_step_8 : decode bT_step 8 = .ok (.aload_n 0, 1) := by decide +kernel
theorem dT_step_9 : decode bT_step 9 = .ok (.getfield 12, 3) := by decide +kernel
theorem dT_step_12 : decode bT_step 12 = .ok (.aload_n 0, 1) := by decide +kernel
theorem dT_step_13 : decode bT_step 13 = .ok (.getfield 16, 3) := by decide +kernel
theorem dT_step_16 : decode bT_step 16 = .ok (.invokevirtual 107, 3) := by decide +kernel
theorem dT_step_19 : decode bT_step 19 = .ok (.ireturn, 1) := by decide +kernel
theorem dR_advance_0 : decode bR_advance 0 = .ok (.aload_n 0, 1) := by decide +kernel
theorem dR_advance_1 : decode bR_advance 1 = .ok (.getfield 29, 3) := by decide +kernel
theorem dR_advance_4 : decode bR_advance 4 = .ok (.aload_n 1, 1) := by decide +kernel
theorem dR_advance_5 : decode bR_advance 5 = .ok (.invokevirtual 39, 3) := by decide +kernel
theorem dR_advance_8 : decode bR_advance 8 = .ok (.if_icmp .ge 13, 3) := by decide +kernel
theorem dR_advance_11 : decode bR_advance 11 = .ok (.aload_n 0, 1) := by decide +kernel
theorem dR_advance_12 : decode bR_advance 12 = .ok (.getfield 33, 3) := by decide +kernel
theorem dR_advance_15 : decode bR_advance 15 = .ok (.sipush 200, 3) := by decide +kernel
theorem dR_advance_18 : decode bR_advance 18 = .ok (.if_icmp .lt 5, 3) := by decide +kernel
theorem dR_advance_21 : decode bR_advance 21 = .ok (.iconst (-1), 1) := by decide +kernel
theorem dR_advance_22 : decode bR_advance 22 = .ok (.ireturn, 1) := by decide +kernel
theorem dR_advance_23 : decode bR_advance 23 = .ok (.aload_n 1, 1) := by decide +kernel
theorem dR_advance_24 : decode bR_advance 24 = .ok (.aload_n 0, 1) := by decide +kernel
theorem dR_advance_25 : decode bR_advance 25 = .ok (.getfield 29, 3) := by decide +kernel
theorem dR_advance_28 : decode bR_advance 28 = .ok (.invokevirtual 45, 3) := by decide +kernel
theorem dR_advance_31 : decode bR_advance 31 = .ok (.iconst 5, 1) := by decide +kernel
theorem dR_advance_32 : decode bR_advance 32 = .ok (.if_icmp .ne 32, 3) := by decide +kernel
theorem dR_advance_35 : decode bR_advance 35 = .ok (.aload_n 0, 1) := by decide +kernel
theorem dR_advance_36 : decode bR_advance 36 = .ok (.aload_n 1, 1) := by decide +kernel
theorem dR_advance_37 : decode bR_advance 37 = .ok (.aload_n 0, 1) := by decide +kernel
theorem dR_advance_38 : decode bR_advance 38 = .ok (.getfield 29, 3) := by decide +kernel
theorem dR_advance_41 : decode bR_advance 41 = .ok (.iconst 1, 1) := by decide +kernel
theorem dR_advance_42 : decode bR_advance 42 = .ok (.invokevirtual 49, 3) := by decide +kernel
theorem dR_advance_45 : decode bR_advance 45 = .ok (.aload_n 0, 1) := by decide +kernel
theorem dR_advance_46 : decode bR_advance 46 = .ok (.getfield 12, 3) := by decide +kernel
theorem dR_advance_49 : decode bR_advance 49 = .ok (.aload_n 1, 1) := by decide +kernel
theorem dR_advance_50 : decode bR_advance 50 = .ok (.aload_n 0, 1) := by decide +kernel
theorem dR_advance_51 : decode bR_advance 51 = .ok (.getfield 29, 3) := by decide +kernel
theorem dR_advance_54 : decode bR_advance 54 = .ok (.iconst 2, 1) := by decide +kernel
theorem dR_advance_55 : decode bR_advance 55 = .ok (.invokevirtual 49, 3) := by decide +kernel
theorem dR_advance_58 : decode bR_advance 58 = .ok (.invokevirtual 53, 3) := by decide +kernel
theorem dR_advance_61 : decode bR_advance 61 = .ok (.invokevirtual 56, 3) := by decide +kernel
theorem dR_advance_64 : decode bR_advance 64 = .ok (.aload_n 0, 1) := by decide +kernel
theorem dR_advance_65 : decode bR_advance 65 = .ok (.getfield 18, 3) := by decide +kernel
theorem dR_advance_68 : decode bR_advance 68 = .ok (.aload_n 2, 1) := by decide +kernel
theorem dR_advance_69 : decode bR_advance 69 = .ok (.aload_n 0, 1) := by decide +kernel
theorem dR_advance_70 : decode bR_advance 70 = .ok (.getfield 29, 3) := by decide +kernel
theorem dR_advance_73 : decode bR_advance 73 = .ok (.invokevirtual 60, 3) := by decide +kernel
theorem dR_advance_76 : decode bR_advance 76 = .ok (.pop, 1) := by decide +kernel
theorem dR_advance_77 : decode bR_advance 77 = .ok (.aload_n 0, 1) := by decide +kernel
theorem dR_advance_78 : decode bR_advance 78 = .ok (.aload_n 0, 1) := by decide +kernel
theorem dR_advance_79 : decode bR_advance 79 = .ok (.getfield 12, 3) := by decide +kernel
theorem dR_advance_82 : decode bR_advance 82 = .ok (.aload_n 1, 1) := by decide +kernel
theorem dR_advance_83 : decode bR_advance 83 = .ok (.aload_n 0, 1) := by decide +kernel
theorem dR_advance_84 : decode bR_advance 84 = .ok (.getfield 29, 3) := by decide +kernel
theorem dR_advance_87 : decode bR_advance 87 = .ok (.invokevirtual 60, 3) := by decide +kernel
theorem dR_advance_90 : decode bR_advance 90 = .ok (.putfield 29, 3) := by decide +kernel
theorem dR_advance_93 : decode bR_advance 93 = .ok (.aload_n 0, 1) := by decide +kernel
theorem dR_advance_94 : decode bR_advance 94 = .ok (.dup, 1) := by decide +kernel
theorem dR_advance_95 : decode bR_advance 95 = .ok (.getfield 33, 3) := by decide +kernel
theorem dR_advance_98 : decode bR_advance 98 = .ok (.iconst 1, 1) := by decide +kernel
theorem dR_advance_99 : decode bR_advance 99 = .ok (.iadd, 1) := by decide +kernel
theorem dR_advance_100 : decode bR_advance 100 = .ok (.putfield 33, 3) := by decide +kernel
theorem dR_advance_103 : decode bR_advance 103 = .ok (.aload_n 0, 1) := by decide +kernel
theorem dR_advance_104 : decode bR_advance 104 = .ok (.getfield 29, 3) := by decide +kernel
theorem dR_advance_107 : decode bR_advance 107 = .ok (.ireturn, 1) := by decide +kernel
theorem dM_content_0 : decode bM_content 0 = .ok (.aload_n 0, 1) := by decide +kernel
theorem dM_content_1 : decode bM_content 1 = .ok (.getfield 9, 3) := by decide +kernel
theorem dM_content_4 : decode bM_content 4 = .ok (.iload_n 1, 1) := by decide +kernel
theorem dM_content_5 : decode bM_content 5 = .ok (.iaload, 1) := by decide +kernel
theorem dM_content_6 : decode bM_content 6 = .ok (.ireturn, 1) := by decide +kernel
theorem dR_giveValue_0 : decode bR_giveValue 0 = .ok (.aload_n 0, 1) := by decide +kernel
theorem dR_giveValue_1 : decode bR_giveValue 1 = .ok (.getfield 21, 3) := by decide +kernel
theorem dR_giveValue_4 : decode bR_giveValue 4 = .ok (.iload_n 1, 1) := by decide +kernel
theorem dR_giveValue_5 : decode bR_giveValue 5 = .ok (.iload_n 2, 1) := by decide +kernel
theorem dR_giveValue_6 : decode bR_giveValue 6 = .ok (.iastore, 1) := by decide +kernel
theorem dR_giveValue_7 : decode bR_giveValue 7 = .ok (.aload_n 0, 1) := by decide +kernel
theorem dR_giveValue_8 : decode bR_giveValue 8 = .ok (.getfield 25, 3) := by decide +kernel
theorem dR_giveValue_11 : decode bR_giveValue 11 = .ok (.iload_n 1, 1) := by decide +kernel
theorem dR_giveValue_12 : decode bR_giveValue 12 = .ok (.iconst 1, 1) := by decide +kernel
theorem dR_giveValue_13 : decode bR_giveValue 13 = .ok (.bastore, 1) := by decide +kernel
theorem dR_giveValue_14 : decode bR_giveValue 14 = .ok (.return_, 1) := by decide +kernel
theorem dM_perform_0 : decode bM_perform 0 = .ok (.aload_n 1, 1) := by decide +kernel
theorem dM_perform_1 : decode bM_perform 1 = .ok (.iload_n 2, 1) := by decide +kernel
theorem dM_perform_2 : decode bM_perform 2 = .ok (.iconst 1, 1) := by decide +kernel
theorem dM_perform_3 : decode bM_perform 3 = .ok (.invokevirtual 28, 3) := by decide +kernel
theorem dM_perform_6 : decode bM_perform 6 = .ok (.istore_n 3, 1) := by decide +kernel
theorem dM_perform_7 : decode bM_perform 7 = .ok (.aload_n 1, 1) := by decide +kernel
theorem dM_perform_8 : decode bM_perform 8 = .ok (.iload_n 2, 1) := by decide +kernel
theorem dM_perform_9 : decode bM_perform 9 = .ok (.iconst 2, 1) := by decide +kernel
theorem dM_perform_10 : decode bM_perform 10 = .ok (.invokevirtual 28, 3) := by decide +kernel
theorem dM_perform_13 : decode bM_perform 13 = .ok (.istore 4, 2) := by decide +kernel
theorem dM_perform_15 : decode bM_perform 15 = .ok (.aload_n 1, 1) := by decide +kernel
theorem dM_perform_16 : decode bM_perform 16 = .ok (.iload_n 2, 1) := by decide +kernel
theorem dM_perform_17 : decode bM_perform 17 = .ok (.invokevirtual 34, 3) := by decide +kernel
theorem dM_perform_20 : decode bM_perform 20 = .ok (.tableswitch 125 0 4 #[36, 47, 63, 91, 104], 36) := by decide +kernel
theorem dM_perform_56 : decode bM_perform 56 = .ok (.aload_n 0, 1) := by decide +kernel
theorem dM_perform_57 : decode bM_perform 57 = .ok (.getfield 9, 3) := by decide +kernel
theorem dM_perform_60 : decode bM_perform 60 = .ok (.iload_n 3, 1) := by decide +kernel
theorem dM_perform_61 : decode bM_perform 61 = .ok (.iload 4, 2) := by decide +kernel
theorem dM_perform_63 : decode bM_perform 63 = .ok (.iastore, 1) := by decide +kernel
theorem dM_perform_64 : decode bM_perform 64 = .ok (.goto 81, 3) := by decide +kernel
theorem dM_perform_67 : decode bM_perform 67 = .ok (.aload_n 0, 1) := by decide +kernel
theorem dM_perform_68 : decode bM_perform 68 = .ok (.getfield 9, 3) := by decide +kernel
theorem dM_perform_71 : decode bM_perform 71 = .ok (.iload_n 3, 1) := by decide +kernel
theorem dM_perform_72 : decode bM_perform 72 = .ok (.aload_n 0, 1) := by decide +kernel
theorem dM_perform_73 : decode bM_perform 73 = .ok (.getfield 9, 3) := by decide +kernel
theorem dM_perform_76 : decode bM_perform 76 = .ok (.iload 4, 2) := by decide +kernel
theorem dM_perform_78 : decode bM_perform 78 = .ok (.iaload, 1) := by decide +kernel
theorem dM_perform_79 : decode bM_perform 79 = .ok (.iastore, 1) := by decide +kernel
theorem dM_perform_80 : decode bM_perform 80 = .ok (.goto 65, 3) := by decide +kernel
theorem dM_perform_83 : decode bM_perform 83 = .ok (.aload_n 0, 1) := by decide +kernel
theorem dM_perform_84 : decode bM_perform 84 = .ok (.getfield 9, 3) := by decide +kernel
theorem dM_perform_87 : decode bM_perform 87 = .ok (.iload_n 3, 1) := by decide +kernel
theorem dM_perform_88 : decode bM_perform 88 = .ok (.aload_n 0, 1) := by decide +kernel
theorem dM_perform_89 : decode bM_perform 89 = .ok (.getfield 9, 3) := by decide +kernel
theorem dM_perform_92 : decode bM_perform 92 = .ok (.iload 4, 2) := by decide +kernel
theorem dM_perform_94 : decode bM_perform 94 = .ok (.iaload, 1) := by decide +kernel
theorem dM_perform_95 : decode bM_perform 95 = .ok (.aload_n 0, 1) := by decide +kernel
theorem dM_perform_96 : decode bM_perform 96 = .ok (.getfield 9, 3) := by decide +kernel
theorem dM_perform_99 : decode bM_perform 99 = .ok (.aload_n 1, 1) := by decide +kernel
theorem dM_perform_100 : decode bM_perform 100 = .ok (.iload_n 2, 1) := by decide +kernel
theorem dM_perform_101 : decode bM_perform 101 = .ok (.iconst 3, 1) := by decide +kernel
theorem dM_perform_102 : decode bM_perform 102 = .ok (.invokevirtual 28, 3) := by decide +kernel
theorem dM_perform_105 : decode bM_perform 105 = .ok (.iaload, 1) := by decide +kernel
theorem dM_perform_106 : decode bM_perform 106 = .ok (.iadd, 1) := by decide +kernel
theorem dM_perform_107 : decode bM_perform 107 = .ok (.iastore, 1) := by decide +kernel
theorem dM_perform_108 : decode bM_perform 108 = .ok (.goto 37, 3) := by decide +kernel
theorem dM_perform_111 : decode bM_perform 111 = .ok (.aload_n 0, 1) := by decide +kernel
theorem dM_perform_112 : decode bM_perform 112 = .ok (.aload_n 0, 1) := by decide +kernel
theorem dM_perform_113 : decode bM_perform 113 = .ok (.getfield 9, 3) := by decide +kernel
theorem dM_perform_116 : decode bM_perform 116 = .ok (.iload_n 3, 1) := by decide +kernel
theorem dM_perform_117 : decode bM_perform 117 = .ok (.iaload, 1) := by decide +kernel
theorem dM_perform_118 : decode bM_perform 118 = .ok (.invokevirtual 38, 3) := by decide +kernel
theorem dM_perform_121 : decode bM_perform 121 = .ok (.goto 24, 3) := by decide +kernel
theorem dM_perform_124 : decode bM_perform 124 = .ok (.aload_n 0, 1) := by decide +kernel
theorem dM_perform_125 : decode bM_perform 125 = .ok (.getfield 9, 3) := by decide +kernel
theorem dM_perform_128 : decode bM_perform 128 = .ok (.iload_n 3, 1) := by decide +kernel
theorem dM_perform_129 : decode bM_perform 129 = .ok (.iaload, 1) := by decide +kernel
theorem dM_perform_130 : decode bM_perform 130 = .ok (.ifCond .ne 11, 3) := by decide +kernel
theorem dM_perform_133 : decode bM_perform 133 = .ok (.aload_n 1, 1) := by decide +kernel
theorem dM_perform_134 : decode bM_perform 134 = .ok (.iload_n 2, 1) := by decide +kernel
theorem dM_perform_135 : decode bM_perform 135 = .ok (.invokevirtual 42, 3) := by decide +kernel
theorem dM_perform_138 : decode bM_perform 138 = .ok (.goto 6, 3) := by decide +kernel
theorem dM_perform_141 : decode bM_perform 141 = .ok (.iload_n 2, 1) := by decide +kernel
theorem dM_perform_142 : decode bM_perform 142 = .ok (.iconst 1, 1) := by decide +kernel
theorem dM_perform_143 : decode bM_perform 143 = .ok (.iadd, 1) := by decide +kernel
theorem dM_perform_144 : decode bM_perform 144 = .ok (.ireturn, 1) := by decide +kernel
theorem dM_perform_145 : decode bM_perform 145 = .ok (.iload_n 2, 1) := by decide +kernel
theorem dM_perform_146 : decode bM_perform 146 = .ok (.iconst 1, 1) := by decide +kernel
theorem dM_perform_147 : decode bM_perform 147 = .ok (.iadd, 1) := by decide +kernel
theorem dM_perform_148 : decode bM_perform 148 = .ok (.ireturn, 1) := by decide +kernel
theorem dM_putOut_0 : decode bM_putOut 0 = .ok (.aload_n 0, 1) := by decide +kernel
theorem dM_putOut_1 : decode bM_putOut 1 = .ok (.getfield 18, 3) := by decide +kernel
theorem dM_putOut_4 : decode bM_putOut 4 = .ok (.sipush 200, 3) := by decide +kernel
theorem dM_putOut_7 : decode bM_putOut 7 = .ok (.if_icmp .ge 23, 3) := by decide +kernel
theorem dM_putOut_10 : decode bM_putOut 10 = .ok (.aload_n 0, 1) := by decide +kernel
theorem dM_putOut_11 : decode bM_putOut 11 = .ok (.getfield 15, 3) := by decide +kernel
theorem dM_putOut_14 : decode bM_putOut 14 = .ok (.aload_n 0, 1) := by decide +kernel
theorem dM_putOut_15 : decode bM_putOut 15 = .ok (.getfield 18, 3) := by decide +kernel
theorem dM_putOut_18 : decode bM_putOut 18 = .ok (.iload_n 1, 1) := by decide +kernel
theorem dM_putOut_19 : decode bM_putOut 19 = .ok (.iastore, 1) := by decide +kernel
theorem dM_putOut_20 : decode bM_putOut 20 = .ok (.aload_n 0, 1) := by decide +kernel
theorem dM_putOut_21 : decode bM_putOut 21 = .ok (.dup, 1) := by decide +kernel
theorem dM_putOut_22 : decode bM_putOut 22 = .ok (.getfield 18, 3) := by decide +kernel
theorem dM_putOut_25 : decode bM_putOut 25 = .ok (.iconst 1, 1) := by decide +kernel
theorem dM_putOut_26 : decode bM_putOut 26 = .ok (.iadd, 1) := by decide +kernel
theorem dM_putOut_27 : decode bM_putOut 27 = .ok (.putfield 18, 3) := by decide +kernel
theorem dM_putOut_30 : decode bM_putOut 30 = .ok (.return_, 1) := by decide +kernel
theorem dT_line_0 : decode bT_line 0 = .ok (.aload_n 0, 1) := by decide +kernel
theorem dT_line_1 : decode bT_line 1 = .ok (.invokevirtual 81, 3) := by decide +kernel
theorem dT_line_4 : decode bT_line 4 = .ok (.aload_n 0, 1) := by decide +kernel
theorem dT_line_5 : decode bT_line 5 = .ok (.getfield 36, 3) := by decide +kernel
theorem dT_line_8 : decode bT_line 8 = .ok (.invokevirtual 111, 3) := by decide +kernel
theorem dT_line_11 : decode bT_line 11 = .ok (.ireturn, 1) := by decide +kernel
theorem dR_position_0 : decode bR_position 0 = .ok (.aload_n 0, 1) := by decide +kernel
theorem dR_position_1 : decode bR_position 1 = .ok (.getfield 29, 3) := by decide +kernel
theorem dR_position_4 : decode bR_position 4 = .ok (.ireturn, 1) := by decide +kernel
theorem dT_register_0 : decode bT_register 0 = .ok (.aload_n 0, 1) := by decide +kernel
theorem dT_register_1 : decode bT_register 1 = .ok (.invokevirtual 81, 3) := by decide +kernel
theorem dT_register_4 : decode bT_register 4 = .ok (.iload_n 1, 1) := by decide +kernel
theorem dT_register_5 : decode bT_register 5 = .ok (.invokestatic 44, 3) := by decide +kernel
theorem dT_register_8 : decode bT_register 8 = .ok (.invokestatic 91, 3) := by decide +kernel
theorem dT_register_11 : decode bT_register 11 = .ok (.aload_n 0, 1) := by decide +kernel
theorem dT_register_12 : decode bT_register 12 = .ok (.getfield 36, 3) := by decide +kernel
theorem dT_register_15 : decode bT_register 15 = .ok (.iload_n 2, 1) := by decide +kernel
theorem dT_register_16 : decode bT_register 16 = .ok (.invokevirtual 114, 3) := by decide +kernel
theorem dT_register_19 : decode bT_register 19 = .ok (.iload_n 1, 1) := by decide +kernel
theorem dT_register_20 : decode bT_register 20 = .ok (.invokevirtual 118, 3) := by decide +kernel
theorem dT_register_23 : decode bT_register 23 = .ok (.ireturn, 1) := by decide +kernel
theorem dR_machine_0 : decode bR_machine 0 = .ok (.iload_n 1, 1) := by decide +kernel
theorem dR_machine_1 : decode bR_machine 1 = .ok (.ifCond .eq 10, 3) := by decide +kernel
theorem dR_machine_4 : decode bR_machine 4 = .ok (.aload_n 0, 1) := by decide +kernel
theorem dR_machine_5 : decode bR_machine 5 = .ok (.getfield 18, 3) := by decide +kernel
theorem dR_machine_8 : decode bR_machine 8 = .ok (.goto 7, 3) := by decide +kernel
theorem dR_machine_11 : decode bR_machine 11 = .ok (.aload_n 0, 1) := by decide +kernel
theorem dR_machine_12 : decode bR_machine 12 = .ok (.getfield 12, 3) := by decide +kernel
theorem dR_machine_15 : decode bR_machine 15 = .ok (.areturn, 1) := by decide +kernel
theorem dT_output_0 : decode bT_output 0 = .ok (.aload_n 0, 1) := by decide +kernel
theorem dT_output_1 : decode bT_output 1 = .ok (.invokevirtual 81, 3) := by decide +kernel
theorem dT_output_4 : decode bT_output 4 = .ok (.iload_n 1, 1) := by decide +kernel
theorem dT_output_5 : decode bT_output 5 = .ok (.aload_n 0, 1) := by decide +kernel
theorem dT_output_6 : decode bT_output 6 = .ok (.getfield 36, 3) := by decide +kernel
theorem dT_output_9 : decode bT_output 9 = .ok (.iload_n 2, 1) := by decide +kernel
theorem dT_output_10 : decode bT_output 10 = .ok (.invokevirtual 114, 3) := by decide +kernel
theorem dT_output_13 : decode bT_output 13 = .ok (.invokevirtual 124, 3) := by decide +kernel
theorem dT_output_16 : decode bT_output 16 = .ok (.invokestatic 56, 3) := by decide +kernel
theorem dT_output_19 : decode bT_output 19 = .ok (.invokestatic 91, 3) := by decide +kernel
theorem dT_output_22 : decode bT_output 22 = .ok (.aload_n 0, 1) := by decide +kernel
theorem dT_output_23 : decode bT_output 23 = .ok (.getfield 36, 3) := by decide +kernel
theorem dT_output_26 : decode bT_output 26 = .ok (.iload_n 2, 1) := by decide +kernel
theorem dT_output_27 : decode bT_output 27 = .ok (.invokevirtual 114, 3) := by decide +kernel
theorem dT_output_30 : decode bT_output 30 = .ok (.iload_n 1, 1) := by decide +kernel
theorem dT_output_31 : decode bT_output 31 = .ok (.invokevirtual 127, 3) := by decide +kernel
theorem dT_output_34 : decode bT_output 34 = .ok (.ireturn, 1) := by decide +kernel
theorem dM_outputCount_0 : decode bM_outputCount 0 = .ok (.aload_n 0, 1) := by decide +kernel
theorem dM_outputCount_1 : decode bM_outputCount 1 = .ok (.getfield 18, 3) := by decide +kernel
theorem dM_outputCount_4 : decode bM_outputCount 4 = .ok (.ireturn, 1) := by decide +kernel
theorem dM_outputAt_0 : decode bM_outputAt 0 = .ok (.aload_n 0, 1) := by decide +kernel
theorem dM_outputAt_1 : decode bM_outputAt 1 = .ok (.getfield 15, 3) := by decide +kernel
theorem dM_outputAt_4 : decode bM_outputAt 4 = .ok (.iload_n 1, 1) := by decide +kernel
theorem dM_outputAt_5 : decode bM_outputAt 5 = .ok (.iaload, 1) := by decide +kernel
theorem dM_outputAt_6 : decode bM_outputAt 6 = .ok (.ireturn, 1) := by decide +kernel
theorem dT_value_0 : decode bT_value 0 = .ok (.aload_n 0, 1) := by decide +kernel
theorem dT_value_1 : decode bT_value 1 = .ok (.invokevirtual 81, 3) := by decide +kernel
theorem dT_value_4 : decode bT_value 4 = .ok (.iload_n 1, 1) := by decide +kernel
theorem dT_value_5 : decode bT_value 5 = .ok (.invokestatic 60, 3) := by decide +kernel
theorem dT_value_8 : decode bT_value 8 = .ok (.invokestatic 91, 3) := by decide +kernel
theorem dT_value_11 : decode bT_value 11 = .ok (.aload_n 0, 1) := by decide +kernel
theorem dT_value_12 : decode bT_value 12 = .ok (.getfield 36, 3) := by decide +kernel
theorem dT_value_15 : decode bT_value 15 = .ok (.iload_n 1, 1) := by decide +kernel
theorem dT_value_16 : decode bT_value 16 = .ok (.invokevirtual 130, 3) := by decide +kernel
theorem dT_value_19 : decode bT_value 19 = .ok (.invokestatic 133, 3) := by decide +kernel
theorem dT_value_22 : decode bT_value 22 = .ok (.aload_n 0, 1) := by decide +kernel
theorem dT_value_23 : decode bT_value 23 = .ok (.getfield 36, 3) := by decide +kernel
theorem dT_value_26 : decode bT_value 26 = .ok (.iload_n 1, 1) := by decide +kernel
theorem dT_value_27 : decode bT_value 27 = .ok (.invokevirtual 136, 3) := by decide +kernel
theorem dT_value_30 : decode bT_value 30 = .ok (.ireturn, 1) := by decide +kernel
theorem dR_hasValue_0 : decode bR_hasValue 0 = .ok (.aload_n 0, 1) := by decide +kernel
theorem dR_hasValue_1 : decode bR_hasValue 1 = .ok (.getfield 25, 3) := by decide +kernel
theorem dR_hasValue_4 : decode bR_hasValue 4 = .ok (.iload_n 1, 1) := by decide +kernel
theorem dR_hasValue_5 : decode bR_hasValue 5 = .ok (.baload, 1) := by decide +kernel
theorem dR_hasValue_6 : decode bR_hasValue 6 = .ok (.ireturn, 1) := by decide +kernel
theorem dR_valueOf_0 : decode bR_valueOf 0 = .ok (.aload_n 0, 1) := by decide +kernel
theorem dR_valueOf_1 : decode bR_valueOf 1 = .ok (.getfield 21, 3) := by decide +kernel
theorem dR_valueOf_4 : decode bR_valueOf 4 = .ok (.iload_n 1, 1) := by decide +kernel
theorem dR_valueOf_5 : decode bR_valueOf 5 = .ok (.iaload, 1) := by decide +kernel
theorem dR_valueOf_6 : decode bR_valueOf 6 = .ok (.ireturn, 1) := by decide +kernel
theorem dT_read_0 : decode bT_read 0 = .ok (.aload_n 0, 1) := by decide +kernel
theorem dT_read_1 : decode bT_read 1 = .ok (.invokevirtual 81, 3) := by decide +kernel
theorem dT_read_4 : decode bT_read 4 = .ok (.iload_n 1, 1) := by decide +kernel
theorem dT_read_5 : decode bT_read 5 = .ok (.invokestatic 60, 3) := by decide +kernel
theorem dT_read_8 : decode bT_read 8 = .ok (.invokestatic 91, 3) := by decide +kernel
theorem dT_read_11 : decode bT_read 11 = .ok (.aload_n 0, 1) := by decide +kernel
theorem dT_read_12 : decode bT_read 12 = .ok (.getfield 29, 3) := by decide +kernel
theorem dT_read_15 : decode bT_read 15 = .ok (.aload_n 0, 1) := by decide +kernel
theorem dT_read_16 : decode bT_read 16 = .ok (.getfield 36, 3) := by decide +kernel
theorem dT_read_19 : decode bT_read 19 = .ok (.invokevirtual 111, 3) := by decide +kernel
theorem dT_read_22 : decode bT_read 22 = .ok (.iload_n 1, 1) := by decide +kernel
theorem dT_read_23 : decode bT_read 23 = .ok (.invokevirtual 101, 3) := by decide +kernel
theorem dT_read_26 : decode bT_read 26 = .ok (.istore_n 2, 1) := by decide +kernel
theorem dT_read_27 : decode bT_read 27 = .ok (.iload_n 2, 1) := by decide +kernel
theorem dT_read_28 : decode bT_read 28 = .ok (.iconst (-1), 1) := by decide +kernel
theorem dT_read_29 : decode bT_read 29 = .ok (.if_icmp .eq 7, 3) := by decide +kernel
theorem dT_read_32 : decode bT_read 32 = .ok (.iconst 1, 1) := by decide +kernel
theorem dT_read_33 : decode bT_read 33 = .ok (.goto 4, 3) := by decide +kernel
theorem dT_read_36 : decode bT_read 36 = .ok (.iconst 0, 1) := by decide +kernel
theorem dT_read_37 : decode bT_read 37 = .ok (.invokestatic 139, 3) := by decide +kernel
theorem dT_read_40 : decode bT_read 40 = .ok (.iload_n 2, 1) := by decide +kernel
theorem dT_read_41 : decode bT_read 41 = .ok (.bipush 6, 2) := by decide +kernel
theorem dT_read_43 : decode bT_read 43 = .ok (.if_icmp .ne 19, 3) := by decide +kernel
theorem dT_read_46 : decode bT_read 46 = .ok (.aload_n 0, 1) := by decide +kernel
theorem dT_read_47 : decode bT_read 47 = .ok (.getfield 29, 3) := by decide +kernel
theorem dT_read_50 : decode bT_read 50 = .ok (.aload_n 0, 1) := by decide +kernel
theorem dT_read_51 : decode bT_read 51 = .ok (.getfield 36, 3) := by decide +kernel
theorem dT_read_54 : decode bT_read 54 = .ok (.invokevirtual 111, 3) := by decide +kernel
theorem dT_read_57 : decode bT_read 57 = .ok (.iload_n 1, 1) := by decide +kernel
theorem dT_read_58 : decode bT_read 58 = .ok (.invokevirtual 142, 3) := by decide +kernel
theorem dT_read_61 : decode bT_read 61 = .ok (.ireturn, 1) := by decide +kernel
theorem dT_read_62 : decode bT_read 62 = .ok (.aload_n 0, 1) := by decide +kernel
theorem dT_read_63 : decode bT_read 63 = .ok (.getfield 36, 3) := by decide +kernel
theorem dT_read_66 : decode bT_read 66 = .ok (.iconst 1, 1) := by decide +kernel
theorem dT_read_67 : decode bT_read 67 = .ok (.invokevirtual 114, 3) := by decide +kernel
theorem dT_read_70 : decode bT_read 70 = .ok (.iload_n 2, 1) := by decide +kernel
theorem dT_read_71 : decode bT_read 71 = .ok (.invokevirtual 118, 3) := by decide +kernel
theorem dT_read_74 : decode bT_read 74 = .ok (.ireturn, 1) := by decide +kernel
theorem dT_requireFound_0 : decode bT_requireFound 0 = .ok (.iload_n 0, 1) := by decide +kernel
theorem dT_requireFound_1 : decode bT_requireFound 1 = .ok (.ifCond .ne 11, 3) := by decide +kernel
theorem dT_requireFound_4 : decode bT_requireFound 4 = .ok (.new 157, 3) := by decide +kernel
theorem dT_requireFound_7 : decode bT_requireFound 7 = .ok (.dup, 1) := by decide +kernel
theorem dT_requireFound_8 : decode bT_requireFound 8 = .ok (.invokespecial 159, 3) := by decide +kernel
theorem dT_requireFound_11 : decode bT_requireFound 11 = .ok (.athrow, 1) := by decide +kernel
theorem dT_requireFound_12 : decode bT_requireFound 12 = .ok (.return_, 1) := by decide +kernel
theorem dK_constantOfVariable_0 : decode bK_constantOfVariable 0 = .ok (.aload_n 0, 1) := by decide +kernel
theorem dK_constantOfVariable_1 : decode bK_constantOfVariable 1 = .ok (.getfield 16, 3) := by decide +kernel
theorem dK_constantOfVariable_4 : decode bK_constantOfVariable 4 = .ok (.bipush 6, 2) := by decide +kernel
theorem dK_constantOfVariable_6 : decode bK_constantOfVariable 6 = .ok (.iload_n 2, 1) := by decide +kernel
theorem dK_constantOfVariable_7 : decode bK_constantOfVariable 7 = .ok (.iadd, 1) := by decide +kernel
theorem dK_constantOfVariable_8 : decode bK_constantOfVariable 8 = .ok (.aaload, 1) := by decide +kernel
theorem dK_constantOfVariable_9 : decode bK_constantOfVariable 9 = .ok (.iload_n 1, 1) := by decide +kernel
theorem dK_constantOfVariable_10 : decode bK_constantOfVariable 10 = .ok (.iaload, 1) := by decide +kernel
theorem dK_constantOfVariable_11 : decode bK_constantOfVariable 11 = .ok (.ireturn, 1) := by decide +kernel
end
section
/-! the cells: 0 the object, 1 and 7 its programs, 13 to 23 the shortener, 24 to 46 the carriers, 47 to 55 the run; 56 to 75 the reference; 76 the law's array -/
def tcx_tb : List tc_R := [(4, 0, [2, 8, 14, 25, 48, 0]), (4, 1, [3, 0]), (3, 4, [3]), (0, 16, []), (0, 16, []), (0, 16, []), (0, 16, []), (4, 1, [9, 0]), (3, 4, [9]), (0, 16, []), (0, 16, []), (0, 16, []), (0, 16, []), (4, 6, [15, 24]), (4, 2, [16, 23]), (3, 6, [16]), (0, 17, []), (0, 17, []), (0, 17, []), (0, 17, []), (0, 17, []), (0, 17, []), (0, 6, []), (0, 17, []), (4, 3, [26, 36, 46, 47]), (3, 9, [26]), (0, 17, []), (0, 17, []), (0, 17, []), (0, 17, []), (0, 17, []), (0, 17, []), (0, 17, []), (0, 17, []), (0, 17, []), (3, 9, [36]), (0, 17, []), (0, 17, []), (0, 17, []), (0, 17, []), (0, 17, []), (0, 17, []), (0, 17, []), (0, 17, []), (0, 17, []), (0, 9, []), (0, 9, []), (4, 5, [49, 52, 55, 56, 0, 0]), (4, 4, [50, 51, 0]), (0, 6, []), (0, 200, []), (4, 4, [53, 54, 0]), (0, 6, []), (0, 200, []), (0, 3, []), (1, 3, []), (4, 7, [0, 0, 58, 59, 60, 61, 0, 62, 63, 64, 65, 66, 67, 68, 0, 69, 70, 71, 72, 0, 0, 73, 74, 75, 0, 76, 0]), (0, 32, []), (0, 32, []), (0, 32, []), (0, 32, []), (0, 16, []), (0, 16, []), (0, 16, []), (1, 16, []), (1, 17, []), (1, 34, []), (0, 34, []), (0, 153, []), (0, 153, []), (0, 9, []), (0, 9, []), (0, 12, []), (0, 3, []), (1, 3, []), (0, 400, []), (2, 1, [])]
def tcx : tc_X := (tcx_tb, tw_cl, [("TracedCode$Code", "READ_PLACES", [0, 4, 12, 2, 2, 4])], [("TracedCode", 11, yC_init, "TracedCode"), ("TracedCode", 21, yS_init, "TracedCode"), ("TracedCode$Shortener", 11, yP_init, "TracedCode"), ("TracedCode$Copies", 3, yF_init, "TracedCode"), ("TracedCode", 28, yK_init, "TracedCode"), ("TracedCode$Carriers", 3, yF_init, "TracedCode"), ("TracedCode", 35, yR_init, "TracedCode"), ("TracedCode$Run", 11, yM_init, "TracedCode")], [yF_settle, (⟨"TracedCode$Facts", "follow", "(LTracedCode$Code;LTracedCode$Code;I)V"⟩ : MethodName), (⟨"TracedCode$Facts", "put", "(I)V"⟩ : MethodName), (⟨"TracedCode$Facts", "narrow", "(I)Z"⟩ : MethodName), (⟨"java/lang/RuntimeException", "<init>", "()V"⟩ : MethodName), (⟨"java/lang/RuntimeException", "<init>", "(Ljava/lang/String;)V"⟩ : MethodName), (⟨"java/lang/Exception", "<init>", "()V"⟩ : MethodName), (⟨"java/lang/Exception", "<init>", "(Ljava/lang/String;)V"⟩ : MethodName), (⟨"java/lang/Throwable", "<init>", "()V"⟩ : MethodName), (⟨"java/lang/Throwable", "<init>", "(Ljava/lang/String;)V"⟩ : MethodName)], [("java/lang/Throwable", "UNASSIGNED_STACK", "[Ljava/lang/StackTraceElement;"), ("java/lang/Throwable", "SUPPRESSED_SENTINEL", "Ljava/util/List;")], [("java/lang/IllegalArgumentException", "java/lang/IllegalArgumentException", true), ("java/lang/IllegalStateException", "java/lang/IllegalStateException", true), ("java/lang/IndexOutOfBoundsException", "java/lang/IndexOutOfBoundsException", true), ("java/util/NoSuchElementException", "java/util/NoSuchElementException", true), ("java/lang/IllegalStateException", "java/lang/IllegalArgumentException", false), ("java/lang/IndexOutOfBoundsException", "java/lang/IllegalStateException", false), ("java/util/NoSuchElementException", "java/lang/IllegalStateException", false), ("java/util/NoSuchElementException", "java/lang/IndexOutOfBoundsException", false)])
theorem tb_0 : tcx.1[0]? = some (4, 0, [2, 8, 14, 25, 48, 0]) := by rfl
theorem tb_1 : tcx.1[1]? = some (4, 1, [3, 0]) := by rfl
theorem tb_2 : tcx.1[2]? = some (3, 4, [3]) := by rfl
theorem tb_3 : tcx.1[3]? = some (0, 16, []) := by rfl
theorem tb_4 : tcx.1[4]? = some (0, 16, []) := by rfl
theorem tb_5 : tcx.1[5]? = some (0, 16, []) := by rfl
theorem tb_6 : tcx.1[6]? = some (0, 16, []) := by rfl
theorem tb_7 : tcx.1[7]? = some (4, 1, [9, 0]) := by rfl
theorem tb_8 : tcx.1[8]? = some (3, 4, [9]) := by rfl
theorem tb_9 : tcx.1[9]? = some (0, 16, []) := by rfl
theorem tb_10 : tcx.1[10]? = some (0, 16, []) := by rfl
theorem tb_11 : tcx.1[11]? = some (0, 16, []) := by rfl
theorem tb_12 : tcx.1[12]? = some (0, 16, []) := by rfl
theorem tb_13 : tcx.1[13]? = some (4, 6, [15, 24]) := by rfl
theorem tb_14 : tcx.1[14]? = some (4, 2, [16, 23]) := by rfl
theorem tb_15 : tcx.1[15]? = some (3, 6, [16]) := by rfl
theorem tb_16 : tcx.1[16]? = some (0, 17, []) := by rfl
theorem tb_17 : tcx.1[17]? = some (0, 17, []) := by rfl
theorem tb_18 : tcx.1[18]? = some (0, 17, []) := by rfl
theorem tb_19 : tcx.1[19]? = some (0, 17, []) := by rfl
theorem tb_20 : tcx.1[20]? = some (0, 17, []) := by rfl
theorem tb_21 : tcx.1[21]? = some (0, 17, []) := by rfl
theorem tb_22 : tcx.1[22]? = some (0, 6, []) := by rfl
theorem tb_23 : tcx.1[23]? = some (0, 17, []) := by rfl
theorem tb_24 : tcx.1[24]? = some (4, 3, [26, 36, 46, 47]) := by rfl
theorem tb_25 : tcx.1[25]? = some (3, 9, [26]) := by rfl
theorem tb_26 : tcx.1[26]? = some (0, 17, []) := by rfl
theorem tb_27 : tcx.1[27]? = some (0, 17, []) := by rfl
theorem tb_28 : tcx.1[28]? = some (0, 17, []) := by rfl
theorem tb_29 : tcx.1[29]? = some (0, 17, []) := by rfl
theorem tb_30 : tcx.1[30]? = some (0, 17, []) := by rfl
theorem tb_31 : tcx.1[31]? = some (0, 17, []) := by rfl
theorem tb_32 : tcx.1[32]? = some (0, 17, []) := by rfl
theorem tb_33 : tcx.1[33]? = some (0, 17, []) := by rfl
theorem tb_34 : tcx.1[34]? = some (0, 17, []) := by rfl
theorem tb_35 : tcx.1[35]? = some (3, 9, [36]) := by rfl
theorem tb_36 : tcx.1[36]? = some (0, 17, []) := by rfl
theorem tb_37 : tcx.1[37]? = some (0, 17, []) := by rfl
theorem tb_38 : tcx.1[38]? = some (0, 17, []) := by rfl
theorem tb_39 : tcx.1[39]? = some (0, 17, []) := by rfl
theorem tb_40 : tcx.1[40]? = some (0, 17, []) := by rfl
theorem tb_41 : tcx.1[41]? = some (0, 17, []) := by rfl
theorem tb_42 : tcx.1[42]? = some (0, 17, []) := by rfl
theorem tb_43 : tcx.1[43]? = some (0, 17, []) := by rfl
theorem tb_44 : tcx.1[44]? = some (0, 17, []) := by rfl
theorem tb_45 : tcx.1[45]? = some (0, 9, []) := by rfl
theorem tb_46 : tcx.1[46]? = some (0, 9, []) := by rfl
theorem tb_47 : tcx.1[47]? = some (4, 5, [49, 52, 55, 56, 0, 0]) := by rfl
theorem tb_48 : tcx.1[48]? = some (4, 4, [50, 51, 0]) := by rfl
theorem tb_49 : tcx.1[49]? = some (0, 6, []) := by rfl
theorem tb_50 : tcx.1[50]? = some (0, 200, []) := by rfl
theorem tb_51 : tcx.1[51]? = some (4, 4, [53, 54, 0]) := by rfl
theorem tb_52 : tcx.1[52]? = some (0, 6, []) := by rfl
theorem tb_53 : tcx.1[53]? = some (0, 200, []) := by rfl
theorem tb_54 : tcx.1[54]? = some (0, 3, []) := by rfl
theorem tb_55 : tcx.1[55]? = some (1, 3, []) := by rfl
theorem tb_56 : tcx.1[56]? = some (4, 7, [0, 0, 58, 59, 60, 61, 0, 62, 63, 64, 65, 66, 67, 68, 0, 69, 70, 71, 72, 0, 0, 73, 74, 75, 0, 76, 0]) := by rfl
theorem tb_57 : tcx.1[57]? = some (0, 32, []) := by rfl
theorem tb_58 : tcx.1[58]? = some (0, 32, []) := by rfl
theorem tb_59 : tcx.1[59]? = some (0, 32, []) := by rfl
theorem tb_60 : tcx.1[60]? = some (0, 32, []) := by rfl
theorem tb_61 : tcx.1[61]? = some (0, 16, []) := by rfl
theorem tb_62 : tcx.1[62]? = some (0, 16, []) := by rfl
theorem tb_63 : tcx.1[63]? = some (0, 16, []) := by rfl
theorem tb_64 : tcx.1[64]? = some (1, 16, []) := by rfl
theorem tb_65 : tcx.1[65]? = some (1, 17, []) := by rfl
theorem tb_66 : tcx.1[66]? = some (1, 34, []) := by rfl
theorem tb_67 : tcx.1[67]? = some (0, 34, []) := by rfl
theorem tb_68 : tcx.1[68]? = some (0, 153, []) := by rfl
theorem tb_69 : tcx.1[69]? = some (0, 153, []) := by rfl
theorem tb_70 : tcx.1[70]? = some (0, 9, []) := by rfl
theorem tb_71 : tcx.1[71]? = some (0, 9, []) := by rfl
theorem tb_72 : tcx.1[72]? = some (0, 12, []) := by rfl
theorem tb_73 : tcx.1[73]? = some (0, 3, []) := by rfl
theorem tb_74 : tcx.1[74]? = some (1, 3, []) := by rfl
theorem tb_75 : tcx.1[75]? = some (0, 400, []) := by rfl
theorem tb_76 : tcx.1[76]? = some (2, 1, []) := by rfl
/-- a walk's contract over the one list of words -/
theorem tw_ofV {G : tc_G} {l : Launch} {y : MethodName} {own : String} {rm : Room} {mc ms nL : Nat} {cc : ByteArray} {ret : Option FieldType} {av : List Value} {u : tc_S} {K : Outcome → tc_S → Prop} (lv : List (Option Value))
    (hy : plainName y.cls = true) (ho : y.cls = own) (hn : (lg_sl av).length ≤ nL) (hlv : lv_args 0 av = tc_as 0 lv)
    (body : ∀ (p : Program) (e : Env) (s : State) (m : MethodId) (args : Array Value) (below : List Frame) (meth : Method) (c : Code), tc_V tcx G p l e rm s m args below meth c cc nL tw own ret [] (MQ below (tc_Qc tcx G K s.heap.size) args s mc ms (tc_A tcx G s.heap.size)) 0 0 u 0 lv []) : tc_C tcx G l y (Cond.code y cc nL ret :: tw) rm mc ms av u K := by
  subst ho
  exact tc_ofV lv hy rfl hn hlv (fun p e s m args below meth c hx hb hm ho ht => body p e s m args below meth c hx hb hm ho (fun w hw => ht w (List.mem_cons_of_mem _ hw)))
theorem tw_ofT {G : tc_G} {l : Launch} {y : MethodName} {own : String} {rm : Room} {mc ms nL : Nat} {cc : ByteArray} {ret : Option FieldType} {av : List Value} {u u' : tc_S} {cls : String} (lv : List (Option Value))
    (hy : plainName y.cls = true) (ho : y.cls = own) (hn : (lg_sl av).length ≤ nL) (hlv : lv_args 0 av = tc_as 0 lv)
    (body : ∀ (p : Program) (e : Env) (s : State) (m : MethodId) (args : Array Value) (below : List Frame) (meth : Method) (c : Code), tc_V tcx G p l e rm s m args below meth c cc nL tw own ret [] (tc_MT tcx G below cls u' args s mc ms) 0 0 u 0 lv []) : tc_T tcx G l y (Cond.code y cc nL ret :: tw) rm mc ms av u u' cls := by
  subst ho
  exact tc_ofT lv hy rfl hn hlv (fun p e s m args below meth c hx hb hm ho ht => body p e s m args below meth c hx hb hm ho (fun w hw => ht w (List.mem_cons_of_mem _ hw)))
section TK
variable {R rm : Room} {s : State} {args : Array Value} {own C : String} {idx mc ms nL : Nat} {y : MethodName} {b : ByteArray} {ret : Option FieldType}
theorem tw_kV (n : Nat) (h2 : Cond.instanceMethod y ∈ tw) (h3 : Cond.selects C y y ∈ tw) (h4 : Cond.initialized C ∈ tw) (h5 : Cond.code y b nL ret ∈ tw) (hrc : rm.cells = mc) (hrs : rm.slots = ms) (hd : y.cls = C ∧ y.cls ≠ "java/lang/invoke/MethodHandle" ∧ y.cls ≠ "java/lang/invoke/VarHandle" ∧ (parseMethodDescriptor y.desc).map (fun d => d.parameters.length) = some n)
    (h : Cond.methodLink own idx y ∈ tw) (hR : rm.frames + 1 ≤ R.frames ∧ 8 + (nL + 11) + rm.locals ≤ R.locals) : (∀ w ∈ tw, w.before args s = true) → CallW R s args own C idx y b nL ret (Cond.code y b nL ret :: tw) rm mc ms n :=
  fun hts => cwV n hts (tw_GI (List.forall_mem_append.mpr ⟨List.forall_mem_cons.mpr ⟨h, List.forall_mem_cons.mpr ⟨h2, List.forall_mem_cons.mpr ⟨h3, List.forall_mem_cons.mpr ⟨h4, fun _ q => absurd q List.not_mem_nil⟩⟩⟩⟩, tw_c h5⟩)) rfl hrc hrs hd hR
theorem tw_kS (n : Nat) (h2 : Cond.static y ∈ tw) (h4 : Cond.initialized y.cls ∈ tw) (h5 : Cond.code y b nL ret ∈ tw) (hrc : rm.cells = mc) (hrs : rm.slots = ms) (hd : y.cls ≠ "java/lang/invoke/MethodHandle" ∧ y.cls ≠ "java/lang/invoke/VarHandle" ∧ (parseMethodDescriptor y.desc).map (fun d => d.parameters.length) = some n)
    (h : Cond.methodLink own idx y ∈ tw) (hR : rm.frames + 1 ≤ R.frames ∧ 8 + (nL + 11) + rm.locals ≤ R.locals) : (∀ w ∈ tw, w.before args s = true) → (CallB R s args own idx y b nL ret (Cond.code y b nL ret :: tw) rm mc ms n ∧ (Cond.static y).before args s = true) :=
  fun hts => va_cwS n hts (tw_GI (List.forall_mem_append.mpr ⟨List.forall_mem_cons.mpr ⟨h, List.forall_mem_cons.mpr ⟨h2, List.forall_mem_cons.mpr ⟨h4, fun _ q => absurd q List.not_mem_nil⟩⟩⟩, tw_c h5⟩)) rfl hrc hrs hd hR
end TK
theorem wm_nat : Cond.native arraycopyName ∈ tw := tw_of 172 (by decide +kernel) (by decide +kernel)
theorem wm_sta : Cond.static arraycopyName ∈ tw := tw_of 171 (by decide +kernel) (by decide +kernel)
abbrev r0T_init : Room := { frames := 4, cells := 0, slots := 0, locals := 84 }
abbrev wT_init : List Cond := Cond.code yT_init bT_init 1 none :: tw
abbrev r0C_init : Room := { frames := 1, cells := 0, slots := 0, locals := 24 }
abbrev wC_init : List Cond := Cond.code yC_init bC_init 1 none :: tw
abbrev r0S_init : Room := { frames := 3, cells := 0, slots := 0, locals := 64 }
abbrev wS_init : List Cond := Cond.code yS_init bS_init 1 none :: tw
abbrev r0P_init : Room := { frames := 2, cells := 0, slots := 0, locals := 44 }
abbrev wP_init : List Cond := Cond.code yP_init bP_init 1 none :: tw
abbrev r0F_init : Room := { frames := 1, cells := 0, slots := 0, locals := 24 }
abbrev wF_init : List Cond := Cond.code yF_init bF_init 1 none :: tw
abbrev r0K_init : Room := { frames := 2, cells := 0, slots := 0, locals := 44 }
abbrev wK_init : List Cond := Cond.code yK_init bK_init 1 none :: tw
abbrev r0R_init : Room := { frames := 2, cells := 0, slots := 0, locals := 44 }
abbrev wR_init : List Cond := Cond.code yR_init bR_init 1 none :: tw
abbrev r0M_init : Room := { frames := 1, cells := 0, slots := 0, locals := 24 }
abbrev wM_init : List Cond := Cond.code yM_init bM_init 1 none :: tw
abbrev r0T_clear : Room := { frames := 1, cells := 0, slots := 0, locals := 20 }
abbrev wT_clear : List Cond := Cond.code yT_clear bT_clear 1 none :: tw
theorem kVT_clear {R : Room} {s : State} {args : Array Value} {own : String} {idx : Nat} (h : Cond.methodLink own idx yT_clear ∈ tw) (hR : r0T_clear.frames + 1 ≤ R.frames ∧ 8 + (1 + 11) + r0T_clear.locals ≤ R.locals) : (∀ w ∈ tw, w.before args s = true) → CallW R s args own "TracedCode" idx yT_clear bT_clear 1 none wT_clear r0T_clear 0 0 0 := tw_kV 0 wm_155 wm_156 wm_1 wm_157 rfl rfl (by decide +kernel) h hR
abbrev r0C_dropLines : Room := { frames := 0, cells := 0, slots := 0, locals := 0 }
abbrev wC_dropLines : List Cond := Cond.code yC_dropLines bC_dropLines 1 none :: tw
theorem kVC_dropLines {R : Room} {s : State} {args : Array Value} {own : String} {idx : Nat} (h : Cond.methodLink own idx yC_dropLines ∈ tw) (hR : r0C_dropLines.frames + 1 ≤ R.frames ∧ 8 + (1 + 11) + r0C_dropLines.locals ≤ R.locals) : (∀ w ∈ tw, w.before args s = true) → CallW R s args own "TracedCode$Code" idx yC_dropLines bC_dropLines 1 none wC_dropLines r0C_dropLines 0 0 0 := tw_kV 0 wm_159 wm_160 wm_2 wm_161 rfl rfl (by decide +kernel) h hR
abbrev r0T_shorten : Room := { frames := 7, cells := 0, slots := 0, locals := 167 }
abbrev wT_shorten : List Cond := Cond.code yT_shorten bT_shorten 2 (some .int) :: tw
theorem kVT_shorten {R : Room} {s : State} {args : Array Value} {own : String} {idx : Nat} (h : Cond.methodLink own idx yT_shorten ∈ tw) (hR : r0T_shorten.frames + 1 ≤ R.frames ∧ 8 + (2 + 11) + r0T_shorten.locals ≤ R.locals) : (∀ w ∈ tw, w.before args s = true) → CallW R s args own "TracedCode" idx yT_shorten bT_shorten 2 (some .int) wT_shorten r0T_shorten 0 0 0 := tw_kV 0 wm_163 wm_164 wm_1 wm_165 rfl rfl (by decide +kernel) h hR
abbrev r0C_takeLines : Room := { frames := 1, cells := 0, slots := 0, locals := 40 }
abbrev wC_takeLines : List Cond := Cond.code yC_takeLines bC_takeLines 3 none :: tw
theorem kVC_takeLines {R : Room} {s : State} {args : Array Value} {own : String} {idx : Nat} (h : Cond.methodLink own idx yC_takeLines ∈ tw) (hR : r0C_takeLines.frames + 1 ≤ R.frames ∧ 8 + (3 + 11) + r0C_takeLines.locals ≤ R.locals) : (∀ w ∈ tw, w.before args s = true) → CallW R s args own "TracedCode$Code" idx yC_takeLines bC_takeLines 3 none wC_takeLines r0C_takeLines 0 0 1 := tw_kV 1 wm_167 wm_168 wm_2 wm_169 rfl rfl (by decide +kernel) h hR
abbrev r0S_changingRounds : Room := { frames := 6, cells := 0, slots := 0, locals := 142 }
abbrev wS_changingRounds : List Cond := Cond.code yS_changingRounds bS_changingRounds 6 (some .int) :: tw
theorem kVS_changingRounds {R : Room} {s : State} {args : Array Value} {own : String} {idx : Nat} (h : Cond.methodLink own idx yS_changingRounds ∈ tw) (hR : r0S_changingRounds.frames + 1 ≤ R.frames ∧ 8 + (6 + 11) + r0S_changingRounds.locals ≤ R.locals) : (∀ w ∈ tw, w.before args s = true) → CallW R s args own "TracedCode$Shortener" idx yS_changingRounds bS_changingRounds 6 (some .int) wS_changingRounds r0S_changingRounds 0 0 1 := tw_kV 1 wm_174 wm_175 wm_3 wm_176 rfl rfl (by decide +kernel) h hR
abbrev r0S_passCopiesOn : Room := { frames := 5, cells := 0, slots := 0, locals := 118 }
abbrev wS_passCopiesOn : List Cond := Cond.code yS_passCopiesOn bS_passCopiesOn 5 (some .boolean) :: tw
theorem kVS_passCopiesOn {R : Room} {s : State} {args : Array Value} {own : String} {idx : Nat} (h : Cond.methodLink own idx yS_passCopiesOn ∈ tw) (hR : r0S_passCopiesOn.frames + 1 ≤ R.frames ∧ 8 + (5 + 11) + r0S_passCopiesOn.locals ≤ R.locals) : (∀ w ∈ tw, w.before args s = true) → CallW R s args own "TracedCode$Shortener" idx yS_passCopiesOn bS_passCopiesOn 5 (some .boolean) wS_passCopiesOn r0S_passCopiesOn 0 0 1 := tw_kV 1 wm_180 ws_S_passCopiesOn wm_3 wm_181 rfl rfl (by decide +kernel) h hR
abbrev r0P_find : Room := { frames := 4, cells := 0, slots := 0, locals := 96 }
abbrev wP_find : List Cond := Cond.code yP_find bP_find 3 none :: tw
theorem kVP_find {R : Room} {s : State} {args : Array Value} {own : String} {idx : Nat} (h : Cond.methodLink own idx yP_find ∈ tw) (hR : r0P_find.frames + 1 ≤ R.frames ∧ 8 + (3 + 11) + r0P_find.locals ≤ R.locals) : (∀ w ∈ tw, w.before args s = true) → CallW R s args own "TracedCode$Copies" idx yP_find bP_find 3 none wP_find r0P_find 0 0 1 := tw_kV 1 wm_183 wm_184 wm_5 wm_185 rfl rfl (by decide +kernel) h hR
abbrev r0F_settle : Room := { frames := 3, cells := 0, slots := 0, locals := 71 }
abbrev wF_settle : List Cond := Cond.code yF_settle bF_settle 6 none :: tw
abbrev r0C_size : Room := { frames := 0, cells := 0, slots := 0, locals := 0 }
abbrev wC_size : List Cond := Cond.code yC_size bC_size 1 (some .int) :: tw
theorem kVC_size {R : Room} {s : State} {args : Array Value} {own : String} {idx : Nat} (h : Cond.methodLink own idx yC_size ∈ tw) (hR : r0C_size.frames + 1 ≤ R.frames ∧ 8 + (1 + 11) + r0C_size.locals ≤ R.locals) : (∀ w ∈ tw, w.before args s = true) → CallW R s args own "TracedCode$Code" idx yC_size bC_size 1 (some .int) wC_size r0C_size 0 0 0 := tw_kV 0 wm_193 wm_194 wm_2 wm_195 rfl rfl (by decide +kernel) h hR
abbrev r0K_follow : Room := { frames := 2, cells := 0, slots := 0, locals := 45 }
abbrev wK_follow : List Cond := Cond.code yK_follow bK_follow 7 none :: tw
abbrev r0K_behindShortLine : Room := { frames := 1, cells := 0, slots := 0, locals := 22 }
abbrev wK_behindShortLine : List Cond := Cond.code yK_behindShortLine bK_behindShortLine 4 (some .int) :: tw
theorem kSK_behindShortLine {R : Room} {s : State} {args : Array Value} {own : String} {idx : Nat} (h : Cond.methodLink own idx yK_behindShortLine ∈ tw) (hR : r0K_behindShortLine.frames + 1 ≤ R.frames ∧ 8 + (4 + 11) + r0K_behindShortLine.locals ≤ R.locals) : (∀ w ∈ tw, w.before args s = true) → (CallB R s args own idx yK_behindShortLine bK_behindShortLine 4 (some .int) wK_behindShortLine r0K_behindShortLine 0 0 3 ∧ (Cond.static yK_behindShortLine).before args s = true) := tw_kS 3 wm_203 wm_6 wm_204 rfl rfl (by decide +kernel) h hR
abbrev r0C_written : Room := { frames := 0, cells := 0, slots := 0, locals := 0 }
abbrev wC_written : List Cond := Cond.code yC_written bC_written 3 (some .int) :: tw
theorem kVC_written {R : Room} {s : State} {args : Array Value} {own : String} {idx : Nat} (h : Cond.methodLink own idx yC_written ∈ tw) (hR : r0C_written.frames + 1 ≤ R.frames ∧ 8 + (3 + 11) + r0C_written.locals ≤ R.locals) : (∀ w ∈ tw, w.before args s = true) → CallW R s args own "TracedCode$Code" idx yC_written bC_written 3 (some .int) wC_written r0C_written 0 0 1 := tw_kV 1 wm_206 wm_207 wm_2 wm_208 rfl rfl (by decide +kernel) h hR
abbrev r0C_kind : Room := { frames := 0, cells := 0, slots := 0, locals := 0 }
abbrev wC_kind : List Cond := Cond.code yC_kind bC_kind 2 (some .int) :: tw
theorem kVC_kind {R : Room} {s : State} {args : Array Value} {own : String} {idx : Nat} (h : Cond.methodLink own idx yC_kind ∈ tw) (hR : r0C_kind.frames + 1 ≤ R.frames ∧ 8 + (2 + 11) + r0C_kind.locals ≤ R.locals) : (∀ w ∈ tw, w.before args s = true) → CallW R s args own "TracedCode$Code" idx yC_kind bC_kind 2 (some .int) wC_kind r0C_kind 0 0 1 := tw_kV 1 wm_210 wm_211 wm_2 wm_212 rfl rfl (by decide +kernel) h hR
abbrev r0C_number : Room := { frames := 0, cells := 0, slots := 0, locals := 0 }
abbrev wC_number : List Cond := Cond.code yC_number bC_number 3 (some .int) :: tw
theorem kVC_number {R : Room} {s : State} {args : Array Value} {own : String} {idx : Nat} (h : Cond.methodLink own idx yC_number ∈ tw) (hR : r0C_number.frames + 1 ≤ R.frames ∧ 8 + (3 + 11) + r0C_number.locals ≤ R.locals) : (∀ w ∈ tw, w.before args s = true) → CallW R s args own "TracedCode$Code" idx yC_number bC_number 3 (some .int) wC_number r0C_number 0 0 2 := tw_kV 2 wm_214 wm_215 wm_2 wm_216 rfl rfl (by decide +kernel) h hR
abbrev r0C_isEmpty : Room := { frames := 0, cells := 0, slots := 0, locals := 0 }
abbrev wC_isEmpty : List Cond := Cond.code yC_isEmpty bC_isEmpty 2 (some .boolean) :: tw
theorem kVC_isEmpty {R : Room} {s : State} {args : Array Value} {own : String} {idx : Nat} (h : Cond.methodLink own idx yC_isEmpty ∈ tw) (hR : r0C_isEmpty.frames + 1 ≤ R.frames ∧ 8 + (2 + 11) + r0C_isEmpty.locals ≤ R.locals) : (∀ w ∈ tw, w.before args s = true) → CallW R s args own "TracedCode$Code" idx yC_isEmpty bC_isEmpty 2 (some .boolean) wC_isEmpty r0C_isEmpty 0 0 1 := tw_kV 1 wm_218 wm_219 wm_2 wm_220 rfl rfl (by decide +kernel) h hR
abbrev r0P_follow : Room := { frames := 1, cells := 0, slots := 0, locals := 22 }
abbrev wP_follow : List Cond := Cond.code yP_follow bP_follow 7 none :: tw
abbrev r0K_put : Room := { frames := 0, cells := 0, slots := 0, locals := 0 }
abbrev wK_put : List Cond := Cond.code yK_put bK_put 3 none :: tw
abbrev r0P_put : Room := { frames := 0, cells := 0, slots := 0, locals := 0 }
abbrev wP_put : List Cond := Cond.code yP_put bP_put 3 none :: tw
abbrev r0K_narrow : Room := { frames := 0, cells := 0, slots := 0, locals := 0 }
abbrev wK_narrow : List Cond := Cond.code yK_narrow bK_narrow 5 (some .boolean) :: tw
abbrev r0P_narrow : Room := { frames := 0, cells := 0, slots := 0, locals := 0 }
abbrev wP_narrow : List Cond := Cond.code yP_narrow bP_narrow 4 (some .boolean) :: tw
abbrev r0C_target : Room := { frames := 0, cells := 0, slots := 0, locals := 0 }
abbrev wC_target : List Cond := Cond.code yC_target bC_target 2 (some .int) :: tw
theorem kVC_target {R : Room} {s : State} {args : Array Value} {own : String} {idx : Nat} (h : Cond.methodLink own idx yC_target ∈ tw) (hR : r0C_target.frames + 1 ≤ R.frames ∧ 8 + (2 + 11) + r0C_target.locals ≤ R.locals) : (∀ w ∈ tw, w.before args s = true) → CallW R s args own "TracedCode$Code" idx yC_target bC_target 2 (some .int) wC_target r0C_target 0 0 1 := tw_kV 1 wm_247 wm_248 wm_2 wm_249 rfl rfl (by decide +kernel) h hR
abbrev r0S_passOneOn : Room := { frames := 1, cells := 0, slots := 0, locals := 23 }
abbrev wS_passOneOn : List Cond := Cond.code yS_passOneOn bS_passOneOn 5 (some .boolean) :: tw
theorem kVS_passOneOn {R : Room} {s : State} {args : Array Value} {own : String} {idx : Nat} (h : Cond.methodLink own idx yS_passOneOn ∈ tw) (hR : r0S_passOneOn.frames + 1 ≤ R.frames ∧ 8 + (5 + 11) + r0S_passOneOn.locals ≤ R.locals) : (∀ w ∈ tw, w.before args s = true) → CallW R s args own "TracedCode$Shortener" idx yS_passOneOn bS_passOneOn 5 (some .boolean) wS_passOneOn r0S_passOneOn 0 0 3 := tw_kV 3 wm_253 ws_S_passOneOn wm_3 wm_254 rfl rfl (by decide +kernel) h hR
abbrev r0C_readsAt : Room := { frames := 0, cells := 0, slots := 0, locals := 0 }
abbrev wC_readsAt : List Cond := Cond.code yC_readsAt bC_readsAt 4 (some .boolean) :: tw
theorem kVC_readsAt {R : Room} {s : State} {args : Array Value} {own : String} {idx : Nat} (h : Cond.methodLink own idx yC_readsAt ∈ tw) (hR : r0C_readsAt.frames + 1 ≤ R.frames ∧ 8 + (4 + 11) + r0C_readsAt.locals ≤ R.locals) : (∀ w ∈ tw, w.before args s = true) → CallW R s args own "TracedCode$Code" idx yC_readsAt bC_readsAt 4 (some .boolean) wC_readsAt r0C_readsAt 0 0 2 := tw_kV 2 wm_256 wm_257 wm_2 wm_258 rfl rfl (by decide +kernel) h hR
abbrev r0P_origin : Room := { frames := 0, cells := 0, slots := 0, locals := 0 }
abbrev wP_origin : List Cond := Cond.code yP_origin bP_origin 3 (some .int) :: tw
theorem kVP_origin {R : Room} {s : State} {args : Array Value} {own : String} {idx : Nat} (h : Cond.methodLink own idx yP_origin ∈ tw) (hR : r0P_origin.frames + 1 ≤ R.frames ∧ 8 + (3 + 11) + r0P_origin.locals ≤ R.locals) : (∀ w ∈ tw, w.before args s = true) → CallW R s args own "TracedCode$Copies" idx yP_origin bP_origin 3 (some .int) wP_origin r0P_origin 0 0 2 := tw_kV 2 wm_263 wm_264 wm_5 wm_265 rfl rfl (by decide +kernel) h hR
abbrev r0C_readInstead : Room := { frames := 0, cells := 0, slots := 0, locals := 0 }
abbrev wC_readInstead : List Cond := Cond.code yC_readInstead bC_readInstead 4 none :: tw
theorem kVC_readInstead {R : Room} {s : State} {args : Array Value} {own : String} {idx : Nat} (h : Cond.methodLink own idx yC_readInstead ∈ tw) (hR : r0C_readInstead.frames + 1 ≤ R.frames ∧ 8 + (4 + 11) + r0C_readInstead.locals ≤ R.locals) : (∀ w ∈ tw, w.before args s = true) → CallW R s args own "TracedCode$Code" idx yC_readInstead bC_readInstead 4 none wC_readInstead r0C_readInstead 0 0 3 := tw_kV 3 wm_267 wm_268 wm_2 wm_269 rfl rfl (by decide +kernel) h hR
abbrev r0C_makeEmpty : Room := { frames := 0, cells := 0, slots := 0, locals := 0 }
abbrev wC_makeEmpty : List Cond := Cond.code yC_makeEmpty bC_makeEmpty 2 none :: tw
theorem kVC_makeEmpty {R : Room} {s : State} {args : Array Value} {own : String} {idx : Nat} (h : Cond.methodLink own idx yC_makeEmpty ∈ tw) (hR : r0C_makeEmpty.frames + 1 ≤ R.frames ∧ 8 + (2 + 11) + r0C_makeEmpty.locals ≤ R.locals) : (∀ w ∈ tw, w.before args s = true) → CallW R s args own "TracedCode$Code" idx yC_makeEmpty bC_makeEmpty 2 none wC_makeEmpty r0C_makeEmpty 0 0 1 := tw_kV 1 wm_272 wm_273 wm_2 wm_274 rfl rfl (by decide +kernel) h hR
abbrev r0S_leaveOutDead : Room := { frames := 4, cells := 0, slots := 0, locals := 95 }
abbrev wS_leaveOutDead : List Cond := Cond.code yS_leaveOutDead bS_leaveOutDead 5 (some .boolean) :: tw
theorem kVS_leaveOutDead {R : Room} {s : State} {args : Array Value} {own : String} {idx : Nat} (h : Cond.methodLink own idx yS_leaveOutDead ∈ tw) (hR : r0S_leaveOutDead.frames + 1 ≤ R.frames ∧ 8 + (5 + 11) + r0S_leaveOutDead.locals ≤ R.locals) : (∀ w ∈ tw, w.before args s = true) → CallW R s args own "TracedCode$Shortener" idx yS_leaveOutDead bS_leaveOutDead 5 (some .boolean) wS_leaveOutDead r0S_leaveOutDead 0 0 1 := tw_kV 1 wm_277 ws_S_leaveOutDead wm_3 wm_278 rfl rfl (by decide +kernel) h hR
abbrev r0S_findLive : Room := { frames := 3, cells := 0, slots := 0, locals := 70 }
abbrev wS_findLive : List Cond := Cond.code yS_findLive bS_findLive 6 none :: tw
theorem kVS_findLive {R : Room} {s : State} {args : Array Value} {own : String} {idx : Nat} (h : Cond.methodLink own idx yS_findLive ∈ tw) (hR : r0S_findLive.frames + 1 ≤ R.frames ∧ 8 + (6 + 11) + r0S_findLive.locals ≤ R.locals) : (∀ w ∈ tw, w.before args s = true) → CallW R s args own "TracedCode$Shortener" idx yS_findLive bS_findLive 6 none wS_findLive r0S_findLive 0 0 1 := tw_kV 1 wm_281 ws_S_findLive wm_3 wm_282 rfl rfl (by decide +kernel) h hR
abbrev r0A_fill : Room := { frames := 0, cells := 0, slots := 0, locals := 0 }
abbrev wA_fill : List Cond := Cond.code yA_fill bA_fill 4 none :: tw
theorem kSA_fill {R : Room} {s : State} {args : Array Value} {own : String} {idx : Nat} (h : Cond.methodLink own idx yA_fill ∈ tw) (hR : r0A_fill.frames + 1 ≤ R.frames ∧ 8 + (4 + 11) + r0A_fill.locals ≤ R.locals) : (∀ w ∈ tw, w.before args s = true) → (CallB R s args own idx yA_fill bA_fill 4 none wA_fill r0A_fill 0 0 2 ∧ (Cond.static yA_fill).before args s = true) := tw_kS 2 wm_284 wm_16 wm_285 rfl rfl (by decide +kernel) h hR
abbrev r0S_liveBefore : Room := { frames := 2, cells := 0, slots := 0, locals := 46 }
abbrev wS_liveBefore : List Cond := Cond.code yS_liveBefore bS_liveBefore 5 (some .int) :: tw
theorem kVS_liveBefore {R : Room} {s : State} {args : Array Value} {own : String} {idx : Nat} (h : Cond.methodLink own idx yS_liveBefore ∈ tw) (hR : r0S_liveBefore.frames + 1 ≤ R.frames ∧ 8 + (5 + 11) + r0S_liveBefore.locals ≤ R.locals) : (∀ w ∈ tw, w.before args s = true) → CallW R s args own "TracedCode$Shortener" idx yS_liveBefore bS_liveBefore 5 (some .int) wS_liveBefore r0S_liveBefore 0 0 2 := tw_kV 2 wm_288 ws_S_liveBefore wm_3 wm_289 rfl rfl (by decide +kernel) h hR
abbrev r0S_liveBehind : Room := { frames := 1, cells := 0, slots := 0, locals := 21 }
abbrev wS_liveBehind : List Cond := Cond.code yS_liveBehind bS_liveBehind 3 (some .int) :: tw
theorem kVS_liveBehind {R : Room} {s : State} {args : Array Value} {own : String} {idx : Nat} (h : Cond.methodLink own idx yS_liveBehind ∈ tw) (hR : r0S_liveBehind.frames + 1 ≤ R.frames ∧ 8 + (3 + 11) + r0S_liveBehind.locals ≤ R.locals) : (∀ w ∈ tw, w.before args s = true) → CallW R s args own "TracedCode$Shortener" idx yS_liveBehind bS_liveBehind 3 (some .int) wS_liveBehind r0S_liveBehind 0 0 2 := tw_kV 2 wm_293 ws_S_liveBehind wm_3 wm_294 rfl rfl (by decide +kernel) h hR
abbrev r0C_needed : Room := { frames := 1, cells := 0, slots := 0, locals := 23 }
abbrev wC_needed : List Cond := Cond.code yC_needed bC_needed 4 (some .int) :: tw
theorem kVC_needed {R : Room} {s : State} {args : Array Value} {own : String} {idx : Nat} (h : Cond.methodLink own idx yC_needed ∈ tw) (hR : r0C_needed.frames + 1 ≤ R.frames ∧ 8 + (4 + 11) + r0C_needed.locals ≤ R.locals) : (∀ w ∈ tw, w.before args s = true) → CallW R s args own "TracedCode$Code" idx yC_needed bC_needed 4 (some .int) wC_needed r0C_needed 0 0 1 := tw_kV 1 wm_297 wm_298 wm_2 wm_299 rfl rfl (by decide +kernel) h hR
abbrev r0K_find : Room := { frames := 4, cells := 0, slots := 0, locals := 96 }
abbrev wK_find : List Cond := Cond.code yK_find bK_find 4 none :: tw
theorem kVK_find {R : Room} {s : State} {args : Array Value} {own : String} {idx : Nat} (h : Cond.methodLink own idx yK_find ∈ tw) (hR : r0K_find.frames + 1 ≤ R.frames ∧ 8 + (4 + 11) + r0K_find.locals ≤ R.locals) : (∀ w ∈ tw, w.before args s = true) → CallW R s args own "TracedCode$Carriers" idx yK_find bK_find 4 none wK_find r0K_find 0 0 2 := tw_kV 2 wm_302 wm_303 wm_6 wm_304 rfl rfl (by decide +kernel) h hR
abbrev r0R_begin : Room := { frames := 2, cells := 0, slots := 0, locals := 43 }
abbrev wR_begin : List Cond := Cond.code yR_begin bR_begin 2 none :: tw
theorem kVR_begin {R : Room} {s : State} {args : Array Value} {own : String} {idx : Nat} (h : Cond.methodLink own idx yR_begin ∈ tw) (hR : r0R_begin.frames + 1 ≤ R.frames ∧ 8 + (2 + 11) + r0R_begin.locals ≤ R.locals) : (∀ w ∈ tw, w.before args s = true) → CallW R s args own "TracedCode$Run" idx yR_begin bR_begin 2 none wR_begin r0R_begin 0 0 0 := tw_kV 0 wm_309 wm_310 wm_7 wm_311 rfl rfl (by decide +kernel) h hR
abbrev r0M_begin : Room := { frames := 1, cells := 0, slots := 0, locals := 23 }
abbrev wM_begin : List Cond := Cond.code yM_begin bM_begin 1 none :: tw
theorem kVM_begin {R : Room} {s : State} {args : Array Value} {own : String} {idx : Nat} (h : Cond.methodLink own idx yM_begin ∈ tw) (hR : r0M_begin.frames + 1 ≤ R.frames ∧ 8 + (1 + 11) + r0M_begin.locals ≤ R.locals) : (∀ w ∈ tw, w.before args s = true) → CallW R s args own "TracedCode$Machine" idx yM_begin bM_begin 1 none wM_begin r0M_begin 0 0 0 := tw_kV 0 wm_313 wm_314 wm_8 wm_315 rfl rfl (by decide +kernel) h hR
abbrev r0T_set : Room := { frames := 8, cells := 0, slots := 0, locals := 140 }
abbrev wT_set : List Cond := Cond.code yT_set bT_set 3 (some .int) :: tw
abbrev r1T_set : Room := { frames := 8, cells := 1, slots := 6, locals := 140 }
theorem kVT_set {R : Room} {s : State} {args : Array Value} {own : String} {idx : Nat} (h : Cond.methodLink own idx yT_set ∈ tw) (hR : r0T_set.frames + 1 ≤ R.frames ∧ 8 + (3 + 11) + r0T_set.locals ≤ R.locals) : (∀ w ∈ tw, w.before args s = true) → CallW R s args own "TracedCode" idx yT_set bT_set 3 (some .int) wT_set r0T_set 0 0 2 := tw_kV 2 wm_323 wm_324 wm_1 wm_325 rfl rfl (by decide +kernel) h hR
theorem kV1T_set {R : Room} {s : State} {args : Array Value} {own : String} {idx : Nat} (h : Cond.methodLink own idx yT_set ∈ tw) (hR : r1T_set.frames + 1 ≤ R.frames ∧ 8 + (3 + 11) + r1T_set.locals ≤ R.locals) : (∀ w ∈ tw, w.before args s = true) → CallW R s args own "TracedCode" idx yT_set bT_set 3 (some .int) wT_set r1T_set 1 6 2 := tw_kV 2 wm_323 wm_324 wm_1 wm_325 rfl rfl (by decide +kernel) h hR
abbrev r0T_isRegister : Room := { frames := 1, cells := 0, slots := 0, locals := 21 }
abbrev wT_isRegister : List Cond := Cond.code yT_isRegister bT_isRegister 1 (some .boolean) :: tw
theorem kST_isRegister {R : Room} {s : State} {args : Array Value} {own : String} {idx : Nat} (h : Cond.methodLink own idx yT_isRegister ∈ tw) (hR : r0T_isRegister.frames + 1 ≤ R.frames ∧ 8 + (1 + 11) + r0T_isRegister.locals ≤ R.locals) : (∀ w ∈ tw, w.before args s = true) → (CallB R s args own idx yT_isRegister bT_isRegister 1 (some .boolean) wT_isRegister r0T_isRegister 0 0 1 ∧ (Cond.static yT_isRegister).before args s = true) := tw_kS 1 wm_327 wm_1 wm_328 rfl rfl (by decide +kernel) h hR
abbrev r0T_isBelow : Room := { frames := 0, cells := 0, slots := 0, locals := 0 }
abbrev wT_isBelow : List Cond := Cond.code yT_isBelow bT_isBelow 2 (some .boolean) :: tw
theorem kST_isBelow {R : Room} {s : State} {args : Array Value} {own : String} {idx : Nat} (h : Cond.methodLink own idx yT_isBelow ∈ tw) (hR : r0T_isBelow.frames + 1 ≤ R.frames ∧ 8 + (2 + 11) + r0T_isBelow.locals ≤ R.locals) : (∀ w ∈ tw, w.before args s = true) → (CallB R s args own idx yT_isBelow bT_isBelow 2 (some .boolean) wT_isBelow r0T_isBelow 0 0 2 ∧ (Cond.static yT_isBelow).before args s = true) := tw_kS 2 wm_330 wm_1 wm_331 rfl rfl (by decide +kernel) h hR
abbrev r0T_requireArgument : Room := { frames := 6, cells := 0, slots := 0, locals := 96 }
abbrev wT_requireArgument : List Cond := Cond.code yT_requireArgument bT_requireArgument 1 none :: tw
abbrev r1T_requireArgument : Room := { frames := 6, cells := 1, slots := 6, locals := 96 }
theorem kST_requireArgument {R : Room} {s : State} {args : Array Value} {own : String} {idx : Nat} (h : Cond.methodLink own idx yT_requireArgument ∈ tw) (hR : r0T_requireArgument.frames + 1 ≤ R.frames ∧ 8 + (1 + 11) + r0T_requireArgument.locals ≤ R.locals) : (∀ w ∈ tw, w.before args s = true) → (CallB R s args own idx yT_requireArgument bT_requireArgument 1 none wT_requireArgument r0T_requireArgument 0 0 1 ∧ (Cond.static yT_requireArgument).before args s = true) := tw_kS 1 wm_333 wm_1 wm_334 rfl rfl (by decide +kernel) h hR
theorem kS1T_requireArgument {R : Room} {s : State} {args : Array Value} {own : String} {idx : Nat} (h : Cond.methodLink own idx yT_requireArgument ∈ tw) (hR : r1T_requireArgument.frames + 1 ≤ R.frames ∧ 8 + (1 + 11) + r1T_requireArgument.locals ≤ R.locals) : (∀ w ∈ tw, w.before args s = true) → (CallB R s args own idx yT_requireArgument bT_requireArgument 1 none wT_requireArgument r1T_requireArgument 1 6 1 ∧ (Cond.static yT_requireArgument).before args s = true) := tw_kS 1 wm_333 wm_1 wm_334 rfl rfl (by decide +kernel) h hR
abbrev r0T_newLine : Room := { frames := 7, cells := 0, slots := 0, locals := 116 }
abbrev wT_newLine : List Cond := Cond.code yT_newLine bT_newLine 5 (some .int) :: tw
abbrev r1T_newLine : Room := { frames := 7, cells := 1, slots := 6, locals := 116 }
theorem kVT_newLine {R : Room} {s : State} {args : Array Value} {own : String} {idx : Nat} (h : Cond.methodLink own idx yT_newLine ∈ tw) (hR : r0T_newLine.frames + 1 ≤ R.frames ∧ 8 + (5 + 11) + r0T_newLine.locals ≤ R.locals) : (∀ w ∈ tw, w.before args s = true) → CallW R s args own "TracedCode" idx yT_newLine bT_newLine 5 (some .int) wT_newLine r0T_newLine 0 0 4 := tw_kV 4 wm_401 ws_T_newLine wm_1 wm_402 rfl rfl (by decide +kernel) h hR
theorem kV1T_newLine {R : Room} {s : State} {args : Array Value} {own : String} {idx : Nat} (h : Cond.methodLink own idx yT_newLine ∈ tw) (hR : r1T_newLine.frames + 1 ≤ R.frames ∧ 8 + (5 + 11) + r1T_newLine.locals ≤ R.locals) : (∀ w ∈ tw, w.before args s = true) → CallW R s args own "TracedCode" idx yT_newLine bT_newLine 5 (some .int) wT_newLine r1T_newLine 1 6 4 := tw_kV 4 wm_401 ws_T_newLine wm_1 wm_402 rfl rfl (by decide +kernel) h hR
abbrev r0T_requireState : Room := { frames := 6, cells := 0, slots := 0, locals := 96 }
abbrev wT_requireState : List Cond := Cond.code yT_requireState bT_requireState 1 none :: tw
abbrev r1T_requireState : Room := { frames := 6, cells := 1, slots := 6, locals := 96 }
theorem kST_requireState {R : Room} {s : State} {args : Array Value} {own : String} {idx : Nat} (h : Cond.methodLink own idx yT_requireState ∈ tw) (hR : r0T_requireState.frames + 1 ≤ R.frames ∧ 8 + (1 + 11) + r0T_requireState.locals ≤ R.locals) : (∀ w ∈ tw, w.before args s = true) → (CallB R s args own idx yT_requireState bT_requireState 1 none wT_requireState r0T_requireState 0 0 1 ∧ (Cond.static yT_requireState).before args s = true) := tw_kS 1 wm_405 wm_1 wm_406 rfl rfl (by decide +kernel) h hR
theorem kS1T_requireState {R : Room} {s : State} {args : Array Value} {own : String} {idx : Nat} (h : Cond.methodLink own idx yT_requireState ∈ tw) (hR : r1T_requireState.frames + 1 ≤ R.frames ∧ 8 + (1 + 11) + r1T_requireState.locals ≤ R.locals) : (∀ w ∈ tw, w.before args s = true) → (CallB R s args own idx yT_requireState bT_requireState 1 none wT_requireState r1T_requireState 1 6 1 ∧ (Cond.static yT_requireState).before args s = true) := tw_kS 1 wm_405 wm_1 wm_406 rfl rfl (by decide +kernel) h hR
abbrev r0C_append : Room := { frames := 0, cells := 0, slots := 0, locals := 0 }
abbrev wC_append : List Cond := Cond.code yC_append bC_append 6 (some .int) :: tw
theorem kVC_append {R : Room} {s : State} {args : Array Value} {own : String} {idx : Nat} (h : Cond.methodLink own idx yC_append ∈ tw) (hR : r0C_append.frames + 1 ≤ R.frames ∧ 8 + (6 + 11) + r0C_append.locals ≤ R.locals) : (∀ w ∈ tw, w.before args s = true) → CallW R s args own "TracedCode$Code" idx yC_append bC_append 6 (some .int) wC_append r0C_append 0 0 4 := tw_kV 4 wm_423 wm_424 wm_2 wm_425 rfl rfl (by decide +kernel) h hR
abbrev r0T_copy : Room := { frames := 8, cells := 0, slots := 0, locals := 140 }
abbrev wT_copy : List Cond := Cond.code yT_copy bT_copy 3 (some .int) :: tw
abbrev r1T_copy : Room := { frames := 8, cells := 1, slots := 6, locals := 140 }
theorem kVT_copy {R : Room} {s : State} {args : Array Value} {own : String} {idx : Nat} (h : Cond.methodLink own idx yT_copy ∈ tw) (hR : r0T_copy.frames + 1 ≤ R.frames ∧ 8 + (3 + 11) + r0T_copy.locals ≤ R.locals) : (∀ w ∈ tw, w.before args s = true) → CallW R s args own "TracedCode" idx yT_copy bT_copy 3 (some .int) wT_copy r0T_copy 0 0 2 := tw_kV 2 wm_430 wm_431 wm_1 wm_432 rfl rfl (by decide +kernel) h hR
theorem kV1T_copy {R : Room} {s : State} {args : Array Value} {own : String} {idx : Nat} (h : Cond.methodLink own idx yT_copy ∈ tw) (hR : r1T_copy.frames + 1 ≤ R.frames ∧ 8 + (3 + 11) + r1T_copy.locals ≤ R.locals) : (∀ w ∈ tw, w.before args s = true) → CallW R s args own "TracedCode" idx yT_copy bT_copy 3 (some .int) wT_copy r1T_copy 1 6 2 := tw_kV 2 wm_430 wm_431 wm_1 wm_432 rfl rfl (by decide +kernel) h hR
abbrev r0T_add : Room := { frames := 8, cells := 0, slots := 0, locals := 140 }
abbrev wT_add : List Cond := Cond.code yT_add bT_add 4 (some .int) :: tw
abbrev r1T_add : Room := { frames := 8, cells := 1, slots := 6, locals := 140 }
theorem kVT_add {R : Room} {s : State} {args : Array Value} {own : String} {idx : Nat} (h : Cond.methodLink own idx yT_add ∈ tw) (hR : r0T_add.frames + 1 ≤ R.frames ∧ 8 + (4 + 11) + r0T_add.locals ≤ R.locals) : (∀ w ∈ tw, w.before args s = true) → CallW R s args own "TracedCode" idx yT_add bT_add 4 (some .int) wT_add r0T_add 0 0 3 := tw_kV 3 wm_437 wm_438 wm_1 wm_439 rfl rfl (by decide +kernel) h hR
theorem kV1T_add {R : Room} {s : State} {args : Array Value} {own : String} {idx : Nat} (h : Cond.methodLink own idx yT_add ∈ tw) (hR : r1T_add.frames + 1 ≤ R.frames ∧ 8 + (4 + 11) + r1T_add.locals ≤ R.locals) : (∀ w ∈ tw, w.before args s = true) → CallW R s args own "TracedCode" idx yT_add bT_add 4 (some .int) wT_add r1T_add 1 6 3 := tw_kV 3 wm_437 wm_438 wm_1 wm_439 rfl rfl (by decide +kernel) h hR
abbrev r0T_out : Room := { frames := 8, cells := 0, slots := 0, locals := 140 }
abbrev wT_out : List Cond := Cond.code yT_out bT_out 2 (some .int) :: tw
abbrev r1T_out : Room := { frames := 8, cells := 1, slots := 6, locals := 140 }
theorem kVT_out {R : Room} {s : State} {args : Array Value} {own : String} {idx : Nat} (h : Cond.methodLink own idx yT_out ∈ tw) (hR : r0T_out.frames + 1 ≤ R.frames ∧ 8 + (2 + 11) + r0T_out.locals ≤ R.locals) : (∀ w ∈ tw, w.before args s = true) → CallW R s args own "TracedCode" idx yT_out bT_out 2 (some .int) wT_out r0T_out 0 0 1 := tw_kV 1 wm_444 wm_445 wm_1 wm_446 rfl rfl (by decide +kernel) h hR
theorem kV1T_out {R : Room} {s : State} {args : Array Value} {own : String} {idx : Nat} (h : Cond.methodLink own idx yT_out ∈ tw) (hR : r1T_out.frames + 1 ≤ R.frames ∧ 8 + (2 + 11) + r1T_out.locals ≤ R.locals) : (∀ w ∈ tw, w.before args s = true) → CallW R s args own "TracedCode" idx yT_out bT_out 2 (some .int) wT_out r1T_out 1 6 1 := tw_kV 1 wm_444 wm_445 wm_1 wm_446 rfl rfl (by decide +kernel) h hR
abbrev r0T_jump : Room := { frames := 8, cells := 0, slots := 0, locals := 140 }
abbrev wT_jump : List Cond := Cond.code yT_jump bT_jump 3 (some .int) :: tw
abbrev r1T_jump : Room := { frames := 8, cells := 1, slots := 6, locals := 140 }
theorem kVT_jump {R : Room} {s : State} {args : Array Value} {own : String} {idx : Nat} (h : Cond.methodLink own idx yT_jump ∈ tw) (hR : r0T_jump.frames + 1 ≤ R.frames ∧ 8 + (3 + 11) + r0T_jump.locals ≤ R.locals) : (∀ w ∈ tw, w.before args s = true) → CallW R s args own "TracedCode" idx yT_jump bT_jump 3 (some .int) wT_jump r0T_jump 0 0 2 := tw_kV 2 wm_451 wm_452 wm_1 wm_453 rfl rfl (by decide +kernel) h hR
theorem kV1T_jump {R : Room} {s : State} {args : Array Value} {own : String} {idx : Nat} (h : Cond.methodLink own idx yT_jump ∈ tw) (hR : r1T_jump.frames + 1 ≤ R.frames ∧ 8 + (3 + 11) + r1T_jump.locals ≤ R.locals) : (∀ w ∈ tw, w.before args s = true) → CallW R s args own "TracedCode" idx yT_jump bT_jump 3 (some .int) wT_jump r1T_jump 1 6 2 := tw_kV 2 wm_451 wm_452 wm_1 wm_453 rfl rfl (by decide +kernel) h hR
abbrev r0T_name : Room := { frames := 8, cells := 0, slots := 0, locals := 140 }
abbrev wT_name : List Cond := Cond.code yT_name bT_name 3 (some .int) :: tw
abbrev r1T_name : Room := { frames := 8, cells := 1, slots := 6, locals := 140 }
theorem kVT_name {R : Room} {s : State} {args : Array Value} {own : String} {idx : Nat} (h : Cond.methodLink own idx yT_name ∈ tw) (hR : r0T_name.frames + 1 ≤ R.frames ∧ 8 + (3 + 11) + r0T_name.locals ≤ R.locals) : (∀ w ∈ tw, w.before args s = true) → CallW R s args own "TracedCode" idx yT_name bT_name 3 (some .int) wT_name r0T_name 0 0 2 := tw_kV 2 wm_458 wm_459 wm_1 wm_460 rfl rfl (by decide +kernel) h hR
theorem kV1T_name {R : Room} {s : State} {args : Array Value} {own : String} {idx : Nat} (h : Cond.methodLink own idx yT_name ∈ tw) (hR : r1T_name.frames + 1 ≤ R.frames ∧ 8 + (3 + 11) + r1T_name.locals ≤ R.locals) : (∀ w ∈ tw, w.before args s = true) → CallW R s args own "TracedCode" idx yT_name bT_name 3 (some .int) wT_name r1T_name 1 6 2 := tw_kV 2 wm_458 wm_459 wm_1 wm_460 rfl rfl (by decide +kernel) h hR
abbrev r0T_isVariable : Room := { frames := 1, cells := 0, slots := 0, locals := 21 }
abbrev wT_isVariable : List Cond := Cond.code yT_isVariable bT_isVariable 1 (some .boolean) :: tw
theorem kST_isVariable {R : Room} {s : State} {args : Array Value} {own : String} {idx : Nat} (h : Cond.methodLink own idx yT_isVariable ∈ tw) (hR : r0T_isVariable.frames + 1 ≤ R.frames ∧ 8 + (1 + 11) + r0T_isVariable.locals ≤ R.locals) : (∀ w ∈ tw, w.before args s = true) → (CallB R s args own idx yT_isVariable bT_isVariable 1 (some .boolean) wT_isVariable r0T_isVariable 0 0 1 ∧ (Cond.static yT_isVariable).before args s = true) := tw_kS 1 wm_462 wm_1 wm_463 rfl rfl (by decide +kernel) h hR
abbrev r0T_kept : Room := { frames := 8, cells := 0, slots := 0, locals := 136 }
abbrev wT_kept : List Cond := Cond.code yT_kept bT_kept 1 (some .int) :: tw
abbrev r1T_kept : Room := { frames := 8, cells := 1, slots := 6, locals := 136 }
theorem kVT_kept {R : Room} {s : State} {args : Array Value} {own : String} {idx : Nat} (h : Cond.methodLink own idx yT_kept ∈ tw) (hR : r0T_kept.frames + 1 ≤ R.frames ∧ 8 + (1 + 11) + r0T_kept.locals ≤ R.locals) : (∀ w ∈ tw, w.before args s = true) → CallW R s args own "TracedCode" idx yT_kept bT_kept 1 (some .int) wT_kept r0T_kept 0 0 0 := tw_kV 0 wm_468 wm_469 wm_1 wm_470 rfl rfl (by decide +kernel) h hR
theorem kV1T_kept {R : Room} {s : State} {args : Array Value} {own : String} {idx : Nat} (h : Cond.methodLink own idx yT_kept ∈ tw) (hR : r1T_kept.frames + 1 ≤ R.frames ∧ 8 + (1 + 11) + r1T_kept.locals ≤ R.locals) : (∀ w ∈ tw, w.before args s = true) → CallW R s args own "TracedCode" idx yT_kept bT_kept 1 (some .int) wT_kept r1T_kept 1 6 0 := tw_kV 0 wm_468 wm_469 wm_1 wm_470 rfl rfl (by decide +kernel) h hR
abbrev r0T_requireShortProgram : Room := { frames := 7, cells := 0, slots := 0, locals := 116 }
abbrev wT_requireShortProgram : List Cond := Cond.code yT_requireShortProgram bT_requireShortProgram 1 none :: tw
abbrev r1T_requireShortProgram : Room := { frames := 7, cells := 1, slots := 6, locals := 116 }
theorem kVT_requireShortProgram {R : Room} {s : State} {args : Array Value} {own : String} {idx : Nat} (h : Cond.methodLink own idx yT_requireShortProgram ∈ tw) (hR : r0T_requireShortProgram.frames + 1 ≤ R.frames ∧ 8 + (1 + 11) + r0T_requireShortProgram.locals ≤ R.locals) : (∀ w ∈ tw, w.before args s = true) → CallW R s args own "TracedCode" idx yT_requireShortProgram bT_requireShortProgram 1 none wT_requireShortProgram r0T_requireShortProgram 0 0 0 := tw_kV 0 wm_473 ws_T_requireShortProgram wm_1 wm_474 rfl rfl (by decide +kernel) h hR
theorem kV1T_requireShortProgram {R : Room} {s : State} {args : Array Value} {own : String} {idx : Nat} (h : Cond.methodLink own idx yT_requireShortProgram ∈ tw) (hR : r1T_requireShortProgram.frames + 1 ≤ R.frames ∧ 8 + (1 + 11) + r1T_requireShortProgram.locals ≤ R.locals) : (∀ w ∈ tw, w.before args s = true) → CallW R s args own "TracedCode" idx yT_requireShortProgram bT_requireShortProgram 1 none wT_requireShortProgram r1T_requireShortProgram 1 6 0 := tw_kV 0 wm_473 ws_T_requireShortProgram wm_1 wm_474 rfl rfl (by decide +kernel) h hR
abbrev r0C_fullLines : Room := { frames := 1, cells := 0, slots := 0, locals := 21 }
abbrev wC_fullLines : List Cond := Cond.code yC_fullLines bC_fullLines 3 (some .int) :: tw
theorem kVC_fullLines {R : Room} {s : State} {args : Array Value} {own : String} {idx : Nat} (h : Cond.methodLink own idx yC_fullLines ∈ tw) (hR : r0C_fullLines.frames + 1 ≤ R.frames ∧ 8 + (3 + 11) + r0C_fullLines.locals ≤ R.locals) : (∀ w ∈ tw, w.before args s = true) → CallW R s args own "TracedCode$Code" idx yC_fullLines bC_fullLines 3 (some .int) wC_fullLines r0C_fullLines 0 0 0 := tw_kV 0 wm_476 wm_477 wm_2 wm_478 rfl rfl (by decide +kernel) h hR
abbrev r0T_part : Room := { frames := 8, cells := 0, slots := 0, locals := 136 }
abbrev wT_part : List Cond := Cond.code yT_part bT_part 3 (some .int) :: tw
abbrev r1T_part : Room := { frames := 8, cells := 1, slots := 6, locals := 136 }
theorem kVT_part {R : Room} {s : State} {args : Array Value} {own : String} {idx : Nat} (h : Cond.methodLink own idx yT_part ∈ tw) (hR : r0T_part.frames + 1 ≤ R.frames ∧ 8 + (3 + 11) + r0T_part.locals ≤ R.locals) : (∀ w ∈ tw, w.before args s = true) → CallW R s args own "TracedCode" idx yT_part bT_part 3 (some .int) wT_part r0T_part 0 0 2 := tw_kV 2 wm_485 wm_486 wm_1 wm_487 rfl rfl (by decide +kernel) h hR
theorem kV1T_part {R : Room} {s : State} {args : Array Value} {own : String} {idx : Nat} (h : Cond.methodLink own idx yT_part ∈ tw) (hR : r1T_part.frames + 1 ≤ R.frames ∧ 8 + (3 + 11) + r1T_part.locals ≤ R.locals) : (∀ w ∈ tw, w.before args s = true) → CallW R s args own "TracedCode" idx yT_part bT_part 3 (some .int) wT_part r1T_part 1 6 2 := tw_kV 2 wm_485 wm_486 wm_1 wm_487 rfl rfl (by decide +kernel) h hR
abbrev r0T_requireIndex : Room := { frames := 6, cells := 0, slots := 0, locals := 96 }
abbrev wT_requireIndex : List Cond := Cond.code yT_requireIndex bT_requireIndex 1 none :: tw
abbrev r1T_requireIndex : Room := { frames := 6, cells := 1, slots := 6, locals := 96 }
theorem kST_requireIndex {R : Room} {s : State} {args : Array Value} {own : String} {idx : Nat} (h : Cond.methodLink own idx yT_requireIndex ∈ tw) (hR : r0T_requireIndex.frames + 1 ≤ R.frames ∧ 8 + (1 + 11) + r0T_requireIndex.locals ≤ R.locals) : (∀ w ∈ tw, w.before args s = true) → (CallB R s args own idx yT_requireIndex bT_requireIndex 1 none wT_requireIndex r0T_requireIndex 0 0 1 ∧ (Cond.static yT_requireIndex).before args s = true) := tw_kS 1 wm_489 wm_1 wm_490 rfl rfl (by decide +kernel) h hR
theorem kS1T_requireIndex {R : Room} {s : State} {args : Array Value} {own : String} {idx : Nat} (h : Cond.methodLink own idx yT_requireIndex ∈ tw) (hR : r1T_requireIndex.frames + 1 ≤ R.frames ∧ 8 + (1 + 11) + r1T_requireIndex.locals ≤ R.locals) : (∀ w ∈ tw, w.before args s = true) → (CallB R s args own idx yT_requireIndex bT_requireIndex 1 none wT_requireIndex r1T_requireIndex 1 6 1 ∧ (Cond.static yT_requireIndex).before args s = true) := tw_kS 1 wm_489 wm_1 wm_490 rfl rfl (by decide +kernel) h hR
abbrev r0T_where : Room := { frames := 8, cells := 0, slots := 0, locals := 136 }
abbrev wT_where : List Cond := Cond.code yT_where bT_where 3 (some .int) :: tw
abbrev r1T_where : Room := { frames := 8, cells := 1, slots := 6, locals := 136 }
theorem kVT_where {R : Room} {s : State} {args : Array Value} {own : String} {idx : Nat} (h : Cond.methodLink own idx yT_where ∈ tw) (hR : r0T_where.frames + 1 ≤ R.frames ∧ 8 + (3 + 11) + r0T_where.locals ≤ R.locals) : (∀ w ∈ tw, w.before args s = true) → CallW R s args own "TracedCode" idx yT_where bT_where 3 (some .int) wT_where r0T_where 0 0 2 := tw_kV 2 wm_511 wm_512 wm_1 wm_513 rfl rfl (by decide +kernel) h hR
theorem kV1T_where {R : Room} {s : State} {args : Array Value} {own : String} {idx : Nat} (h : Cond.methodLink own idx yT_where ∈ tw) (hR : r1T_where.frames + 1 ≤ R.frames ∧ 8 + (3 + 11) + r1T_where.locals ≤ R.locals) : (∀ w ∈ tw, w.before args s = true) → CallW R s args own "TracedCode" idx yT_where bT_where 3 (some .int) wT_where r1T_where 1 6 2 := tw_kV 2 wm_511 wm_512 wm_1 wm_513 rfl rfl (by decide +kernel) h hR
abbrev r0T_isPoint : Room := { frames := 1, cells := 0, slots := 0, locals := 21 }
abbrev wT_isPoint : List Cond := Cond.code yT_isPoint bT_isPoint 2 (some .boolean) :: tw
theorem kVT_isPoint {R : Room} {s : State} {args : Array Value} {own : String} {idx : Nat} (h : Cond.methodLink own idx yT_isPoint ∈ tw) (hR : r0T_isPoint.frames + 1 ≤ R.frames ∧ 8 + (2 + 11) + r0T_isPoint.locals ≤ R.locals) : (∀ w ∈ tw, w.before args s = true) → CallW R s args own "TracedCode" idx yT_isPoint bT_isPoint 2 (some .boolean) wT_isPoint r0T_isPoint 0 0 1 := tw_kV 1 wm_516 ws_T_isPoint wm_1 wm_517 rfl rfl (by decide +kernel) h hR
abbrev r0K_placeOfVariable : Room := { frames := 0, cells := 0, slots := 0, locals := 0 }
abbrev wK_placeOfVariable : List Cond := Cond.code yK_placeOfVariable bK_placeOfVariable 4 (some .int) :: tw
theorem kVK_placeOfVariable {R : Room} {s : State} {args : Array Value} {own : String} {idx : Nat} (h : Cond.methodLink own idx yK_placeOfVariable ∈ tw) (hR : r0K_placeOfVariable.frames + 1 ≤ R.frames ∧ 8 + (4 + 11) + r0K_placeOfVariable.locals ≤ R.locals) : (∀ w ∈ tw, w.before args s = true) → CallW R s args own "TracedCode$Carriers" idx yK_placeOfVariable bK_placeOfVariable 4 (some .int) wK_placeOfVariable r0K_placeOfVariable 0 0 2 := tw_kV 2 wm_519 wm_520 wm_6 wm_521 rfl rfl (by decide +kernel) h hR
abbrev r0T_carriers : Room := { frames := 8, cells := 0, slots := 0, locals := 136 }
abbrev wT_carriers : List Cond := Cond.code yT_carriers bT_carriers 3 (some .int) :: tw
abbrev r1T_carriers : Room := { frames := 8, cells := 1, slots := 6, locals := 136 }
theorem kVT_carriers {R : Room} {s : State} {args : Array Value} {own : String} {idx : Nat} (h : Cond.methodLink own idx yT_carriers ∈ tw) (hR : r0T_carriers.frames + 1 ≤ R.frames ∧ 8 + (3 + 11) + r0T_carriers.locals ≤ R.locals) : (∀ w ∈ tw, w.before args s = true) → CallW R s args own "TracedCode" idx yT_carriers bT_carriers 3 (some .int) wT_carriers r0T_carriers 0 0 2 := tw_kV 2 wm_526 wm_527 wm_1 wm_528 rfl rfl (by decide +kernel) h hR
theorem kV1T_carriers {R : Room} {s : State} {args : Array Value} {own : String} {idx : Nat} (h : Cond.methodLink own idx yT_carriers ∈ tw) (hR : r1T_carriers.frames + 1 ≤ R.frames ∧ 8 + (3 + 11) + r1T_carriers.locals ≤ R.locals) : (∀ w ∈ tw, w.before args s = true) → CallW R s args own "TracedCode" idx yT_carriers bT_carriers 3 (some .int) wT_carriers r1T_carriers 1 6 2 := tw_kV 2 wm_526 wm_527 wm_1 wm_528 rfl rfl (by decide +kernel) h hR
abbrev r0K_ofRegister : Room := { frames := 0, cells := 0, slots := 0, locals := 0 }
abbrev wK_ofRegister : List Cond := Cond.code yK_ofRegister bK_ofRegister 3 (some .int) :: tw
theorem kVK_ofRegister {R : Room} {s : State} {args : Array Value} {own : String} {idx : Nat} (h : Cond.methodLink own idx yK_ofRegister ∈ tw) (hR : r0K_ofRegister.frames + 1 ≤ R.frames ∧ 8 + (3 + 11) + r0K_ofRegister.locals ≤ R.locals) : (∀ w ∈ tw, w.before args s = true) → CallW R s args own "TracedCode$Carriers" idx yK_ofRegister bK_ofRegister 3 (some .int) wK_ofRegister r0K_ofRegister 0 0 2 := tw_kV 2 wm_530 wm_531 wm_6 wm_532 rfl rfl (by decide +kernel) h hR
abbrev r0T_restart : Room := { frames := 8, cells := 0, slots := 0, locals := 136 }
abbrev wT_restart : List Cond := Cond.code yT_restart bT_restart 1 none :: tw
abbrev r1T_restart : Room := { frames := 8, cells := 1, slots := 6, locals := 136 }
theorem kVT_restart {R : Room} {s : State} {args : Array Value} {own : String} {idx : Nat} (h : Cond.methodLink own idx yT_restart ∈ tw) (hR : r0T_restart.frames + 1 ≤ R.frames ∧ 8 + (1 + 11) + r0T_restart.locals ≤ R.locals) : (∀ w ∈ tw, w.before args s = true) → CallW R s args own "TracedCode" idx yT_restart bT_restart 1 none wT_restart r0T_restart 0 0 0 := tw_kV 0 wm_537 wm_538 wm_1 wm_539 rfl rfl (by decide +kernel) h hR
theorem kV1T_restart {R : Room} {s : State} {args : Array Value} {own : String} {idx : Nat} (h : Cond.methodLink own idx yT_restart ∈ tw) (hR : r1T_restart.frames + 1 ≤ R.frames ∧ 8 + (1 + 11) + r1T_restart.locals ≤ R.locals) : (∀ w ∈ tw, w.before args s = true) → CallW R s args own "TracedCode" idx yT_restart bT_restart 1 none wT_restart r1T_restart 1 6 0 := tw_kV 0 wm_537 wm_538 wm_1 wm_539 rfl rfl (by decide +kernel) h hR
abbrev r0T_step : Room := { frames := 8, cells := 0, slots := 0, locals := 136 }
abbrev wT_step : List Cond := Cond.code yT_step bT_step 1 (some .int) :: tw
abbrev r1T_step : Room := { frames := 8, cells := 1, slots := 6, locals := 136 }
theorem kVT_step {R : Room} {s : State} {args : Array Value} {own : String} {idx : Nat} (h : Cond.methodLink own idx yT_step ∈ tw) (hR : r0T_step.frames + 1 ≤ R.frames ∧ 8 + (1 + 11) + r0T_step.locals ≤ R.locals) : (∀ w ∈ tw, w.before args s = true) → CallW R s args own "TracedCode" idx yT_step bT_step 1 (some .int) wT_step r0T_step 0 0 0 := tw_kV 0 wm_544 wm_545 wm_1 wm_546 rfl rfl (by decide +kernel) h hR
theorem kV1T_step {R : Room} {s : State} {args : Array Value} {own : String} {idx : Nat} (h : Cond.methodLink own idx yT_step ∈ tw) (hR : r1T_step.frames + 1 ≤ R.frames ∧ 8 + (1 + 11) + r1T_step.locals ≤ R.locals) : (∀ w ∈ tw, w.before args s = true) → CallW R s args own "TracedCode" idx yT_step bT_step 1 (some .int) wT_step r1T_step 1 6 0 := tw_kV 0 wm_544 wm_545 wm_1 wm_546 rfl rfl (by decide +kernel) h hR
abbrev r0R_advance : Room := { frames := 2, cells := 0, slots := 0, locals := 46 }
abbrev wR_advance : List Cond := Cond.code yR_advance bR_advance 3 (some .int) :: tw
theorem kVR_advance {R : Room} {s : State} {args : Array Value} {own : String} {idx : Nat} (h : Cond.methodLink own idx yR_advance ∈ tw) (hR : r0R_advance.frames + 1 ≤ R.frames ∧ 8 + (3 + 11) + r0R_advance.locals ≤ R.locals) : (∀ w ∈ tw, w.before args s = true) → CallW R s args own "TracedCode$Run" idx yR_advance bR_advance 3 (some .int) wR_advance r0R_advance 0 0 2 := tw_kV 2 wm_548 wm_549 wm_7 wm_550 rfl rfl (by decide +kernel) h hR
abbrev r0M_content : Room := { frames := 0, cells := 0, slots := 0, locals := 0 }
abbrev wM_content : List Cond := Cond.code yM_content bM_content 2 (some .int) :: tw
theorem kVM_content {R : Room} {s : State} {args : Array Value} {own : String} {idx : Nat} (h : Cond.methodLink own idx yM_content ∈ tw) (hR : r0M_content.frames + 1 ≤ R.frames ∧ 8 + (2 + 11) + r0M_content.locals ≤ R.locals) : (∀ w ∈ tw, w.before args s = true) → CallW R s args own "TracedCode$Machine" idx yM_content bM_content 2 (some .int) wM_content r0M_content 0 0 1 := tw_kV 1 wm_555 wm_556 wm_8 wm_557 rfl rfl (by decide +kernel) h hR
abbrev r0R_giveValue : Room := { frames := 0, cells := 0, slots := 0, locals := 0 }
abbrev wR_giveValue : List Cond := Cond.code yR_giveValue bR_giveValue 3 none :: tw
theorem kVR_giveValue {R : Room} {s : State} {args : Array Value} {own : String} {idx : Nat} (h : Cond.methodLink own idx yR_giveValue ∈ tw) (hR : r0R_giveValue.frames + 1 ≤ R.frames ∧ 8 + (3 + 11) + r0R_giveValue.locals ≤ R.locals) : (∀ w ∈ tw, w.before args s = true) → CallW R s args own "TracedCode$Run" idx yR_giveValue bR_giveValue 3 none wR_giveValue r0R_giveValue 0 0 2 := tw_kV 2 wm_560 ws_R_giveValue wm_7 wm_561 rfl rfl (by decide +kernel) h hR
abbrev r0M_perform : Room := { frames := 1, cells := 0, slots := 0, locals := 22 }
abbrev wM_perform : List Cond := Cond.code yM_perform bM_perform 5 (some .int) :: tw
theorem kVM_perform {R : Room} {s : State} {args : Array Value} {own : String} {idx : Nat} (h : Cond.methodLink own idx yM_perform ∈ tw) (hR : r0M_perform.frames + 1 ≤ R.frames ∧ 8 + (5 + 11) + r0M_perform.locals ≤ R.locals) : (∀ w ∈ tw, w.before args s = true) → CallW R s args own "TracedCode$Machine" idx yM_perform bM_perform 5 (some .int) wM_perform r0M_perform 0 0 2 := tw_kV 2 wm_563 wm_564 wm_8 wm_565 rfl rfl (by decide +kernel) h hR
abbrev r0M_putOut : Room := { frames := 0, cells := 0, slots := 0, locals := 0 }
abbrev wM_putOut : List Cond := Cond.code yM_putOut bM_putOut 2 none :: tw
theorem kVM_putOut {R : Room} {s : State} {args : Array Value} {own : String} {idx : Nat} (h : Cond.methodLink own idx yM_putOut ∈ tw) (hR : r0M_putOut.frames + 1 ≤ R.frames ∧ 8 + (2 + 11) + r0M_putOut.locals ≤ R.locals) : (∀ w ∈ tw, w.before args s = true) → CallW R s args own "TracedCode$Machine" idx yM_putOut bM_putOut 2 none wM_putOut r0M_putOut 0 0 1 := tw_kV 1 wm_570 ws_M_putOut wm_8 wm_571 rfl rfl (by decide +kernel) h hR
abbrev r0T_line : Room := { frames := 8, cells := 0, slots := 0, locals := 136 }
abbrev wT_line : List Cond := Cond.code yT_line bT_line 1 (some .int) :: tw
abbrev r1T_line : Room := { frames := 8, cells := 1, slots := 6, locals := 136 }
theorem kVT_line {R : Room} {s : State} {args : Array Value} {own : String} {idx : Nat} (h : Cond.methodLink own idx yT_line ∈ tw) (hR : r0T_line.frames + 1 ≤ R.frames ∧ 8 + (1 + 11) + r0T_line.locals ≤ R.locals) : (∀ w ∈ tw, w.before args s = true) → CallW R s args own "TracedCode" idx yT_line bT_line 1 (some .int) wT_line r0T_line 0 0 0 := tw_kV 0 wm_577 wm_578 wm_1 wm_579 rfl rfl (by decide +kernel) h hR
theorem kV1T_line {R : Room} {s : State} {args : Array Value} {own : String} {idx : Nat} (h : Cond.methodLink own idx yT_line ∈ tw) (hR : r1T_line.frames + 1 ≤ R.frames ∧ 8 + (1 + 11) + r1T_line.locals ≤ R.locals) : (∀ w ∈ tw, w.before args s = true) → CallW R s args own "TracedCode" idx yT_line bT_line 1 (some .int) wT_line r1T_line 1 6 0 := tw_kV 0 wm_577 wm_578 wm_1 wm_579 rfl rfl (by decide +kernel) h hR
abbrev r0R_position : Room := { frames := 0, cells := 0, slots := 0, locals := 0 }
abbrev wR_position : List Cond := Cond.code yR_position bR_position 1 (some .int) :: tw
theorem kVR_position {R : Room} {s : State} {args : Array Value} {own : String} {idx : Nat} (h : Cond.methodLink own idx yR_position ∈ tw) (hR : r0R_position.frames + 1 ≤ R.frames ∧ 8 + (1 + 11) + r0R_position.locals ≤ R.locals) : (∀ w ∈ tw, w.before args s = true) → CallW R s args own "TracedCode$Run" idx yR_position bR_position 1 (some .int) wR_position r0R_position 0 0 0 := tw_kV 0 wm_581 wm_582 wm_7 wm_583 rfl rfl (by decide +kernel) h hR
abbrev r0T_register : Room := { frames := 8, cells := 0, slots := 0, locals := 136 }
abbrev wT_register : List Cond := Cond.code yT_register bT_register 3 (some .int) :: tw
abbrev r1T_register : Room := { frames := 8, cells := 1, slots := 6, locals := 136 }
theorem kVT_register {R : Room} {s : State} {args : Array Value} {own : String} {idx : Nat} (h : Cond.methodLink own idx yT_register ∈ tw) (hR : r0T_register.frames + 1 ≤ R.frames ∧ 8 + (3 + 11) + r0T_register.locals ≤ R.locals) : (∀ w ∈ tw, w.before args s = true) → CallW R s args own "TracedCode" idx yT_register bT_register 3 (some .int) wT_register r0T_register 0 0 2 := tw_kV 2 wm_588 wm_589 wm_1 wm_590 rfl rfl (by decide +kernel) h hR
theorem kV1T_register {R : Room} {s : State} {args : Array Value} {own : String} {idx : Nat} (h : Cond.methodLink own idx yT_register ∈ tw) (hR : r1T_register.frames + 1 ≤ R.frames ∧ 8 + (3 + 11) + r1T_register.locals ≤ R.locals) : (∀ w ∈ tw, w.before args s = true) → CallW R s args own "TracedCode" idx yT_register bT_register 3 (some .int) wT_register r1T_register 1 6 2 := tw_kV 2 wm_588 wm_589 wm_1 wm_590 rfl rfl (by decide +kernel) h hR
abbrev r0R_machine : Room := { frames := 0, cells := 0, slots := 0, locals := 0 }
abbrev wR_machine : List Cond := Cond.code yR_machine bR_machine 2 (some (.object "TracedCode$Machine")) :: tw
theorem kVR_machine {R : Room} {s : State} {args : Array Value} {own : String} {idx : Nat} (h : Cond.methodLink own idx yR_machine ∈ tw) (hR : r0R_machine.frames + 1 ≤ R.frames ∧ 8 + (2 + 11) + r0R_machine.locals ≤ R.locals) : (∀ w ∈ tw, w.before args s = true) → CallW R s args own "TracedCode$Run" idx yR_machine bR_machine 2 (some (.object "TracedCode$Machine")) wR_machine r0R_machine 0 0 1 := tw_kV 1 wm_592 wm_593 wm_7 wm_594 rfl rfl (by decide +kernel) h hR
abbrev r0T_output : Room := { frames := 8, cells := 0, slots := 0, locals := 136 }
abbrev wT_output : List Cond := Cond.code yT_output bT_output 3 (some .int) :: tw
abbrev r1T_output : Room := { frames := 8, cells := 1, slots := 6, locals := 136 }
theorem kVT_output {R : Room} {s : State} {args : Array Value} {own : String} {idx : Nat} (h : Cond.methodLink own idx yT_output ∈ tw) (hR : r0T_output.frames + 1 ≤ R.frames ∧ 8 + (3 + 11) + r0T_output.locals ≤ R.locals) : (∀ w ∈ tw, w.before args s = true) → CallW R s args own "TracedCode" idx yT_output bT_output 3 (some .int) wT_output r0T_output 0 0 2 := tw_kV 2 wm_600 wm_601 wm_1 wm_602 rfl rfl (by decide +kernel) h hR
theorem kV1T_output {R : Room} {s : State} {args : Array Value} {own : String} {idx : Nat} (h : Cond.methodLink own idx yT_output ∈ tw) (hR : r1T_output.frames + 1 ≤ R.frames ∧ 8 + (3 + 11) + r1T_output.locals ≤ R.locals) : (∀ w ∈ tw, w.before args s = true) → CallW R s args own "TracedCode" idx yT_output bT_output 3 (some .int) wT_output r1T_output 1 6 2 := tw_kV 2 wm_600 wm_601 wm_1 wm_602 rfl rfl (by decide +kernel) h hR
abbrev r0M_outputCount : Room := { frames := 0, cells := 0, slots := 0, locals := 0 }
abbrev wM_outputCount : List Cond := Cond.code yM_outputCount bM_outputCount 1 (some .int) :: tw
theorem kVM_outputCount {R : Room} {s : State} {args : Array Value} {own : String} {idx : Nat} (h : Cond.methodLink own idx yM_outputCount ∈ tw) (hR : r0M_outputCount.frames + 1 ≤ R.frames ∧ 8 + (1 + 11) + r0M_outputCount.locals ≤ R.locals) : (∀ w ∈ tw, w.before args s = true) → CallW R s args own "TracedCode$Machine" idx yM_outputCount bM_outputCount 1 (some .int) wM_outputCount r0M_outputCount 0 0 0 := tw_kV 0 wm_604 wm_605 wm_8 wm_606 rfl rfl (by decide +kernel) h hR
abbrev r0M_outputAt : Room := { frames := 0, cells := 0, slots := 0, locals := 0 }
abbrev wM_outputAt : List Cond := Cond.code yM_outputAt bM_outputAt 2 (some .int) :: tw
theorem kVM_outputAt {R : Room} {s : State} {args : Array Value} {own : String} {idx : Nat} (h : Cond.methodLink own idx yM_outputAt ∈ tw) (hR : r0M_outputAt.frames + 1 ≤ R.frames ∧ 8 + (2 + 11) + r0M_outputAt.locals ≤ R.locals) : (∀ w ∈ tw, w.before args s = true) → CallW R s args own "TracedCode$Machine" idx yM_outputAt bM_outputAt 2 (some .int) wM_outputAt r0M_outputAt 0 0 1 := tw_kV 1 wm_608 wm_609 wm_8 wm_610 rfl rfl (by decide +kernel) h hR
abbrev r0T_value : Room := { frames := 8, cells := 0, slots := 0, locals := 136 }
abbrev wT_value : List Cond := Cond.code yT_value bT_value 2 (some .int) :: tw
abbrev r1T_value : Room := { frames := 8, cells := 1, slots := 6, locals := 136 }
theorem kVT_value {R : Room} {s : State} {args : Array Value} {own : String} {idx : Nat} (h : Cond.methodLink own idx yT_value ∈ tw) (hR : r0T_value.frames + 1 ≤ R.frames ∧ 8 + (2 + 11) + r0T_value.locals ≤ R.locals) : (∀ w ∈ tw, w.before args s = true) → CallW R s args own "TracedCode" idx yT_value bT_value 2 (some .int) wT_value r0T_value 0 0 1 := tw_kV 1 wm_615 wm_616 wm_1 wm_617 rfl rfl (by decide +kernel) h hR
theorem kV1T_value {R : Room} {s : State} {args : Array Value} {own : String} {idx : Nat} (h : Cond.methodLink own idx yT_value ∈ tw) (hR : r1T_value.frames + 1 ≤ R.frames ∧ 8 + (2 + 11) + r1T_value.locals ≤ R.locals) : (∀ w ∈ tw, w.before args s = true) → CallW R s args own "TracedCode" idx yT_value bT_value 2 (some .int) wT_value r1T_value 1 6 1 := tw_kV 1 wm_615 wm_616 wm_1 wm_617 rfl rfl (by decide +kernel) h hR
abbrev r0R_hasValue : Room := { frames := 0, cells := 0, slots := 0, locals := 0 }
abbrev wR_hasValue : List Cond := Cond.code yR_hasValue bR_hasValue 2 (some .boolean) :: tw
theorem kVR_hasValue {R : Room} {s : State} {args : Array Value} {own : String} {idx : Nat} (h : Cond.methodLink own idx yR_hasValue ∈ tw) (hR : r0R_hasValue.frames + 1 ≤ R.frames ∧ 8 + (2 + 11) + r0R_hasValue.locals ≤ R.locals) : (∀ w ∈ tw, w.before args s = true) → CallW R s args own "TracedCode$Run" idx yR_hasValue bR_hasValue 2 (some .boolean) wR_hasValue r0R_hasValue 0 0 1 := tw_kV 1 wm_619 wm_620 wm_7 wm_621 rfl rfl (by decide +kernel) h hR
abbrev r0R_valueOf : Room := { frames := 0, cells := 0, slots := 0, locals := 0 }
abbrev wR_valueOf : List Cond := Cond.code yR_valueOf bR_valueOf 2 (some .int) :: tw
theorem kVR_valueOf {R : Room} {s : State} {args : Array Value} {own : String} {idx : Nat} (h : Cond.methodLink own idx yR_valueOf ∈ tw) (hR : r0R_valueOf.frames + 1 ≤ R.frames ∧ 8 + (2 + 11) + r0R_valueOf.locals ≤ R.locals) : (∀ w ∈ tw, w.before args s = true) → CallW R s args own "TracedCode$Run" idx yR_valueOf bR_valueOf 2 (some .int) wR_valueOf r0R_valueOf 0 0 1 := tw_kV 1 wm_623 wm_624 wm_7 wm_625 rfl rfl (by decide +kernel) h hR
abbrev r0T_read : Room := { frames := 8, cells := 0, slots := 0, locals := 136 }
abbrev wT_read : List Cond := Cond.code yT_read bT_read 3 (some .int) :: tw
abbrev r1T_read : Room := { frames := 8, cells := 1, slots := 6, locals := 136 }
theorem kVT_read {R : Room} {s : State} {args : Array Value} {own : String} {idx : Nat} (h : Cond.methodLink own idx yT_read ∈ tw) (hR : r0T_read.frames + 1 ≤ R.frames ∧ 8 + (3 + 11) + r0T_read.locals ≤ R.locals) : (∀ w ∈ tw, w.before args s = true) → CallW R s args own "TracedCode" idx yT_read bT_read 3 (some .int) wT_read r0T_read 0 0 1 := tw_kV 1 wm_631 wm_632 wm_1 wm_633 rfl rfl (by decide +kernel) h hR
theorem kV1T_read {R : Room} {s : State} {args : Array Value} {own : String} {idx : Nat} (h : Cond.methodLink own idx yT_read ∈ tw) (hR : r1T_read.frames + 1 ≤ R.frames ∧ 8 + (3 + 11) + r1T_read.locals ≤ R.locals) : (∀ w ∈ tw, w.before args s = true) → CallW R s args own "TracedCode" idx yT_read bT_read 3 (some .int) wT_read r1T_read 1 6 1 := tw_kV 1 wm_631 wm_632 wm_1 wm_633 rfl rfl (by decide +kernel) h hR
abbrev r0T_requireFound : Room := { frames := 6, cells := 0, slots := 0, locals := 96 }
abbrev wT_requireFound : List Cond := Cond.code yT_requireFound bT_requireFound 1 none :: tw
abbrev r1T_requireFound : Room := { frames := 6, cells := 1, slots := 6, locals := 96 }
theorem kST_requireFound {R : Room} {s : State} {args : Array Value} {own : String} {idx : Nat} (h : Cond.methodLink own idx yT_requireFound ∈ tw) (hR : r0T_requireFound.frames + 1 ≤ R.frames ∧ 8 + (1 + 11) + r0T_requireFound.locals ≤ R.locals) : (∀ w ∈ tw, w.before args s = true) → (CallB R s args own idx yT_requireFound bT_requireFound 1 none wT_requireFound r0T_requireFound 0 0 1 ∧ (Cond.static yT_requireFound).before args s = true) := tw_kS 1 wm_635 wm_1 wm_636 rfl rfl (by decide +kernel) h hR
theorem kS1T_requireFound {R : Room} {s : State} {args : Array Value} {own : String} {idx : Nat} (h : Cond.methodLink own idx yT_requireFound ∈ tw) (hR : r1T_requireFound.frames + 1 ≤ R.frames ∧ 8 + (1 + 11) + r1T_requireFound.locals ≤ R.locals) : (∀ w ∈ tw, w.before args s = true) → (CallB R s args own idx yT_requireFound bT_requireFound 1 none wT_requireFound r1T_requireFound 1 6 1 ∧ (Cond.static yT_requireFound).before args s = true) := tw_kS 1 wm_635 wm_1 wm_636 rfl rfl (by decide +kernel) h hR
abbrev r0K_constantOfVariable : Room := { frames := 0, cells := 0, slots := 0, locals := 0 }
abbrev wK_constantOfVariable : List Cond := Cond.code yK_constantOfVariable bK_constantOfVariable 3 (some .int) :: tw
theorem kVK_constantOfVariable {R : Room} {s : State} {args : Array Value} {own : String} {idx : Nat} (h : Cond.methodLink own idx yK_constantOfVariable ∈ tw) (hR : r0K_constantOfVariable.frames + 1 ≤ R.frames ∧ 8 + (3 + 11) + r0K_constantOfVariable.locals ≤ R.locals) : (∀ w ∈ tw, w.before args s = true) → CallW R s args own "TracedCode$Carriers" idx yK_constantOfVariable bK_constantOfVariable 3 (some .int) wK_constantOfVariable r0K_constantOfVariable 0 0 2 := tw_kV 2 wm_653 wm_654 wm_6 wm_655 rfl rfl (by decide +kernel) h hR
abbrev r0D_init : Room := { frames := 1, cells := 0, slots := 0, locals := 24 }
abbrev wD_init : List Cond := Cond.code yD_init bD_init 1 none :: tw
abbrev r0D_thrown : Room := { frames := 0, cells := 0, slots := 0, locals := 0 }
abbrev wD_thrown : List Cond := Cond.code yD_thrown bD_thrown 1 (some .int) :: tw
theorem kVD_thrown {R : Room} {s : State} {args : Array Value} {own : String} {idx : Nat} (h : Cond.methodLink own idx yD_thrown ∈ tw) (hR : r0D_thrown.frames + 1 ≤ R.frames ∧ 8 + (1 + 11) + r0D_thrown.locals ≤ R.locals) : (∀ w ∈ tw, w.before args s = true) → CallW R s args own "TracedCodeModel" idx yD_thrown bD_thrown 1 (some .int) wD_thrown r0D_thrown 0 0 0 := tw_kV 0 wm_745 wm_746 wm_9 wm_747 rfl rfl (by decide +kernel) h hR
abbrev r0D_set : Room := { frames := 1, cells := 0, slots := 0, locals := 24 }
abbrev wD_set : List Cond := Cond.code yD_set bD_set 3 (some .int) :: tw
theorem kVD_set {R : Room} {s : State} {args : Array Value} {own : String} {idx : Nat} (h : Cond.methodLink own idx yD_set ∈ tw) (hR : r0D_set.frames + 1 ≤ R.frames ∧ 8 + (3 + 11) + r0D_set.locals ≤ R.locals) : (∀ w ∈ tw, w.before args s = true) → CallW R s args own "TracedCodeModel" idx yD_set bD_set 3 (some .int) wD_set r0D_set 0 0 2 := tw_kV 2 wm_749 wm_750 wm_9 wm_751 rfl rfl (by decide +kernel) h hR
abbrev r0D_noRegister : Room := { frames := 0, cells := 0, slots := 0, locals := 0 }
abbrev wD_noRegister : List Cond := Cond.code yD_noRegister bD_noRegister 1 (some .boolean) :: tw
theorem kSD_noRegister {R : Room} {s : State} {args : Array Value} {own : String} {idx : Nat} (h : Cond.methodLink own idx yD_noRegister ∈ tw) (hR : r0D_noRegister.frames + 1 ≤ R.frames ∧ 8 + (1 + 11) + r0D_noRegister.locals ≤ R.locals) : (∀ w ∈ tw, w.before args s = true) → (CallB R s args own idx yD_noRegister bD_noRegister 1 (some .boolean) wD_noRegister r0D_noRegister 0 0 1 ∧ (Cond.static yD_noRegister).before args s = true) := tw_kS 1 wm_753 wm_9 wm_754 rfl rfl (by decide +kernel) h hR
abbrev r0D_newLine : Room := { frames := 0, cells := 0, slots := 0, locals := 0 }
abbrev wD_newLine : List Cond := Cond.code yD_newLine bD_newLine 5 (some .int) :: tw
theorem kVD_newLine {R : Room} {s : State} {args : Array Value} {own : String} {idx : Nat} (h : Cond.methodLink own idx yD_newLine ∈ tw) (hR : r0D_newLine.frames + 1 ≤ R.frames ∧ 8 + (5 + 11) + r0D_newLine.locals ≤ R.locals) : (∀ w ∈ tw, w.before args s = true) → CallW R s args own "TracedCodeModel" idx yD_newLine bD_newLine 5 (some .int) wD_newLine r0D_newLine 0 0 4 := tw_kV 4 wm_757 ws_D_newLine wm_9 wm_758 rfl rfl (by decide +kernel) h hR
abbrev r0D_copy : Room := { frames := 1, cells := 0, slots := 0, locals := 24 }
abbrev wD_copy : List Cond := Cond.code yD_copy bD_copy 3 (some .int) :: tw
theorem kVD_copy {R : Room} {s : State} {args : Array Value} {own : String} {idx : Nat} (h : Cond.methodLink own idx yD_copy ∈ tw) (hR : r0D_copy.frames + 1 ≤ R.frames ∧ 8 + (3 + 11) + r0D_copy.locals ≤ R.locals) : (∀ w ∈ tw, w.before args s = true) → CallW R s args own "TracedCodeModel" idx yD_copy bD_copy 3 (some .int) wD_copy r0D_copy 0 0 2 := tw_kV 2 wm_760 wm_761 wm_9 wm_762 rfl rfl (by decide +kernel) h hR
abbrev r0D_add : Room := { frames := 1, cells := 0, slots := 0, locals := 24 }
abbrev wD_add : List Cond := Cond.code yD_add bD_add 4 (some .int) :: tw
theorem kVD_add {R : Room} {s : State} {args : Array Value} {own : String} {idx : Nat} (h : Cond.methodLink own idx yD_add ∈ tw) (hR : r0D_add.frames + 1 ≤ R.frames ∧ 8 + (4 + 11) + r0D_add.locals ≤ R.locals) : (∀ w ∈ tw, w.before args s = true) → CallW R s args own "TracedCodeModel" idx yD_add bD_add 4 (some .int) wD_add r0D_add 0 0 3 := tw_kV 3 wm_764 wm_765 wm_9 wm_766 rfl rfl (by decide +kernel) h hR
abbrev r0D_out : Room := { frames := 1, cells := 0, slots := 0, locals := 24 }
abbrev wD_out : List Cond := Cond.code yD_out bD_out 2 (some .int) :: tw
theorem kVD_out {R : Room} {s : State} {args : Array Value} {own : String} {idx : Nat} (h : Cond.methodLink own idx yD_out ∈ tw) (hR : r0D_out.frames + 1 ≤ R.frames ∧ 8 + (2 + 11) + r0D_out.locals ≤ R.locals) : (∀ w ∈ tw, w.before args s = true) → CallW R s args own "TracedCodeModel" idx yD_out bD_out 2 (some .int) wD_out r0D_out 0 0 1 := tw_kV 1 wm_768 wm_769 wm_9 wm_770 rfl rfl (by decide +kernel) h hR
abbrev r0D_jump : Room := { frames := 1, cells := 0, slots := 0, locals := 24 }
abbrev wD_jump : List Cond := Cond.code yD_jump bD_jump 3 (some .int) :: tw
theorem kVD_jump {R : Room} {s : State} {args : Array Value} {own : String} {idx : Nat} (h : Cond.methodLink own idx yD_jump ∈ tw) (hR : r0D_jump.frames + 1 ≤ R.frames ∧ 8 + (3 + 11) + r0D_jump.locals ≤ R.locals) : (∀ w ∈ tw, w.before args s = true) → CallW R s args own "TracedCodeModel" idx yD_jump bD_jump 3 (some .int) wD_jump r0D_jump 0 0 2 := tw_kV 2 wm_772 wm_773 wm_9 wm_774 rfl rfl (by decide +kernel) h hR
abbrev r0D_name : Room := { frames := 1, cells := 0, slots := 0, locals := 24 }
abbrev wD_name : List Cond := Cond.code yD_name bD_name 3 (some .int) :: tw
theorem kVD_name {R : Room} {s : State} {args : Array Value} {own : String} {idx : Nat} (h : Cond.methodLink own idx yD_name ∈ tw) (hR : r0D_name.frames + 1 ≤ R.frames ∧ 8 + (3 + 11) + r0D_name.locals ≤ R.locals) : (∀ w ∈ tw, w.before args s = true) → CallW R s args own "TracedCodeModel" idx yD_name bD_name 3 (some .int) wD_name r0D_name 0 0 2 := tw_kV 2 wm_776 wm_777 wm_9 wm_778 rfl rfl (by decide +kernel) h hR
abbrev r0D_clear : Room := { frames := 0, cells := 0, slots := 0, locals := 0 }
abbrev wD_clear : List Cond := Cond.code yD_clear bD_clear 1 none :: tw
theorem kVD_clear {R : Room} {s : State} {args : Array Value} {own : String} {idx : Nat} (h : Cond.methodLink own idx yD_clear ∈ tw) (hR : r0D_clear.frames + 1 ≤ R.frames ∧ 8 + (1 + 11) + r0D_clear.locals ≤ R.locals) : (∀ w ∈ tw, w.before args s = true) → CallW R s args own "TracedCodeModel" idx yD_clear bD_clear 1 none wD_clear r0D_clear 0 0 0 := tw_kV 0 wm_780 wm_781 wm_9 wm_782 rfl rfl (by decide +kernel) h hR
abbrev r0D_shorten : Room := { frames := 3, cells := 0, slots := 0, locals := 72 }
abbrev wD_shorten : List Cond := Cond.code yD_shorten bD_shorten 5 (some .int) :: tw
theorem kVD_shorten {R : Room} {s : State} {args : Array Value} {own : String} {idx : Nat} (h : Cond.methodLink own idx yD_shorten ∈ tw) (hR : r0D_shorten.frames + 1 ≤ R.frames ∧ 8 + (5 + 11) + r0D_shorten.locals ≤ R.locals) : (∀ w ∈ tw, w.before args s = true) → CallW R s args own "TracedCodeModel" idx yD_shorten bD_shorten 5 (some .int) wD_shorten r0D_shorten 0 0 0 := tw_kV 0 wm_784 wm_785 wm_9 wm_786 rfl rfl (by decide +kernel) h hR
abbrev r0D_reach : Room := { frames := 1, cells := 0, slots := 0, locals := 21 }
abbrev wD_reach : List Cond := Cond.code yD_reach bD_reach 2 none :: tw
theorem kVD_reach {R : Room} {s : State} {args : Array Value} {own : String} {idx : Nat} (h : Cond.methodLink own idx yD_reach ∈ tw) (hR : r0D_reach.frames + 1 ≤ R.frames ∧ 8 + (2 + 11) + r0D_reach.locals ≤ R.locals) : (∀ w ∈ tw, w.before args s = true) → CallW R s args own "TracedCodeModel" idx yD_reach bD_reach 2 none wD_reach r0D_reach 0 0 0 := tw_kV 0 wm_789 ws_D_reach wm_9 wm_790 rfl rfl (by decide +kernel) h hR
abbrev r0D_forget : Room := { frames := 0, cells := 0, slots := 0, locals := 0 }
abbrev wD_forget : List Cond := Cond.code yD_forget bD_forget 2 none :: tw
theorem kVD_forget {R : Room} {s : State} {args : Array Value} {own : String} {idx : Nat} (h : Cond.methodLink own idx yD_forget ∈ tw) (hR : r0D_forget.frames + 1 ≤ R.frames ∧ 8 + (2 + 11) + r0D_forget.locals ≤ R.locals) : (∀ w ∈ tw, w.before args s = true) → CallW R s args own "TracedCodeModel" idx yD_forget bD_forget 2 none wD_forget r0D_forget 0 0 0 := tw_kV 0 wm_793 ws_D_forget wm_9 wm_794 rfl rfl (by decide +kernel) h hR
abbrev r0D_meet : Room := { frames := 0, cells := 0, slots := 0, locals := 0 }
abbrev wD_meet : List Cond := Cond.code yD_meet bD_meet 2 none :: tw
theorem kVD_meet {R : Room} {s : State} {args : Array Value} {own : String} {idx : Nat} (h : Cond.methodLink own idx yD_meet ∈ tw) (hR : r0D_meet.frames + 1 ≤ R.frames ∧ 8 + (2 + 11) + r0D_meet.locals ≤ R.locals) : (∀ w ∈ tw, w.before args s = true) → CallW R s args own "TracedCodeModel" idx yD_meet bD_meet 2 none wD_meet r0D_meet 0 0 1 := tw_kV 1 wm_797 ws_D_meet wm_9 wm_798 rfl rfl (by decide +kernel) h hR
abbrev r0D_targetOf : Room := { frames := 0, cells := 0, slots := 0, locals := 0 }
abbrev wD_targetOf : List Cond := Cond.code yD_targetOf bD_targetOf 2 (some .int) :: tw
theorem kVD_targetOf {R : Room} {s : State} {args : Array Value} {own : String} {idx : Nat} (h : Cond.methodLink own idx yD_targetOf ∈ tw) (hR : r0D_targetOf.frames + 1 ≤ R.frames ∧ 8 + (2 + 11) + r0D_targetOf.locals ≤ R.locals) : (∀ w ∈ tw, w.before args s = true) → CallW R s args own "TracedCodeModel" idx yD_targetOf bD_targetOf 2 (some .int) wD_targetOf r0D_targetOf 0 0 1 := tw_kV 1 wm_801 ws_D_targetOf wm_9 wm_802 rfl rfl (by decide +kernel) h hR
abbrev r0D_passOn : Room := { frames := 2, cells := 0, slots := 0, locals := 49 }
abbrev wD_passOn : List Cond := Cond.code yD_passOn bD_passOn 4 (some .boolean) :: tw
theorem kVD_passOn {R : Room} {s : State} {args : Array Value} {own : String} {idx : Nat} (h : Cond.methodLink own idx yD_passOn ∈ tw) (hR : r0D_passOn.frames + 1 ≤ R.frames ∧ 8 + (4 + 11) + r0D_passOn.locals ≤ R.locals) : (∀ w ∈ tw, w.before args s = true) → CallW R s args own "TracedCodeModel" idx yD_passOn bD_passOn 4 (some .boolean) wD_passOn r0D_passOn 0 0 0 := tw_kV 0 wm_805 ws_D_passOn wm_9 wm_806 rfl rfl (by decide +kernel) h hR
abbrev r0D_follow : Room := { frames := 1, cells := 0, slots := 0, locals := 22 }
abbrev wD_follow : List Cond := Cond.code yD_follow bD_follow 8 none :: tw
theorem kVD_follow {R : Room} {s : State} {args : Array Value} {own : String} {idx : Nat} (h : Cond.methodLink own idx yD_follow ∈ tw) (hR : r0D_follow.frames + 1 ≤ R.frames ∧ 8 + (8 + 11) + r0D_follow.locals ≤ R.locals) : (∀ w ∈ tw, w.before args s = true) → CallW R s args own "TracedCodeModel" idx yD_follow bD_follow 8 none wD_follow r0D_follow 0 0 2 := tw_kV 2 wm_809 ws_D_follow wm_9 wm_810 rfl rfl (by decide +kernel) h hR
abbrev r0D_writes : Room := { frames := 0, cells := 0, slots := 0, locals := 0 }
abbrev wD_writes : List Cond := Cond.code yD_writes bD_writes 3 (some .boolean) :: tw
theorem kVD_writes {R : Room} {s : State} {args : Array Value} {own : String} {idx : Nat} (h : Cond.methodLink own idx yD_writes ∈ tw) (hR : r0D_writes.frames + 1 ≤ R.frames ∧ 8 + (3 + 11) + r0D_writes.locals ≤ R.locals) : (∀ w ∈ tw, w.before args s = true) → CallW R s args own "TracedCodeModel" idx yD_writes bD_writes 3 (some .boolean) wD_writes r0D_writes 0 0 2 := tw_kV 2 wm_813 ws_D_writes wm_9 wm_814 rfl rfl (by decide +kernel) h hR
abbrev r0D_replace : Room := { frames := 0, cells := 0, slots := 0, locals := 0 }
abbrev wD_replace : List Cond := Cond.code yD_replace bD_replace 5 none :: tw
theorem kVD_replace {R : Room} {s : State} {args : Array Value} {own : String} {idx : Nat} (h : Cond.methodLink own idx yD_replace ∈ tw) (hR : r0D_replace.frames + 1 ≤ R.frames ∧ 8 + (5 + 11) + r0D_replace.locals ≤ R.locals) : (∀ w ∈ tw, w.before args s = true) → CallW R s args own "TracedCodeModel" idx yD_replace bD_replace 5 none wD_replace r0D_replace 0 0 3 := tw_kV 3 wm_817 ws_D_replace wm_9 wm_818 rfl rfl (by decide +kernel) h hR
abbrev r0D_empty : Room := { frames := 0, cells := 0, slots := 0, locals := 0 }
abbrev wD_empty : List Cond := Cond.code yD_empty bD_empty 2 none :: tw
theorem kVD_empty {R : Room} {s : State} {args : Array Value} {own : String} {idx : Nat} (h : Cond.methodLink own idx yD_empty ∈ tw) (hR : r0D_empty.frames + 1 ≤ R.frames ∧ 8 + (2 + 11) + r0D_empty.locals ≤ R.locals) : (∀ w ∈ tw, w.before args s = true) → CallW R s args own "TracedCodeModel" idx yD_empty bD_empty 2 none wD_empty r0D_empty 0 0 1 := tw_kV 1 wm_821 ws_D_empty wm_9 wm_822 rfl rfl (by decide +kernel) h hR
abbrev r0D_leaveOut : Room := { frames := 2, cells := 0, slots := 0, locals := 46 }
abbrev wD_leaveOut : List Cond := Cond.code yD_leaveOut bD_leaveOut 3 (some .boolean) :: tw
theorem kVD_leaveOut {R : Room} {s : State} {args : Array Value} {own : String} {idx : Nat} (h : Cond.methodLink own idx yD_leaveOut ∈ tw) (hR : r0D_leaveOut.frames + 1 ≤ R.frames ∧ 8 + (3 + 11) + r0D_leaveOut.locals ≤ R.locals) : (∀ w ∈ tw, w.before args s = true) → CallW R s args own "TracedCodeModel" idx yD_leaveOut bD_leaveOut 3 (some .boolean) wD_leaveOut r0D_leaveOut 0 0 0 := tw_kV 0 wm_825 ws_D_leaveOut wm_9 wm_826 rfl rfl (by decide +kernel) h hR
abbrev r0D_isLive : Room := { frames := 1, cells := 0, slots := 0, locals := 23 }
abbrev wD_isLive : List Cond := Cond.code yD_isLive bD_isLive 4 (some .boolean) :: tw
theorem kVD_isLive {R : Room} {s : State} {args : Array Value} {own : String} {idx : Nat} (h : Cond.methodLink own idx yD_isLive ∈ tw) (hR : r0D_isLive.frames + 1 ≤ R.frames ∧ 8 + (4 + 11) + r0D_isLive.locals ≤ R.locals) : (∀ w ∈ tw, w.before args s = true) → CallW R s args own "TracedCodeModel" idx yD_isLive bD_isLive 4 (some .boolean) wD_isLive r0D_isLive 0 0 2 := tw_kV 2 wm_829 ws_D_isLive wm_9 wm_830 rfl rfl (by decide +kernel) h hR
abbrev r0D_uses : Room := { frames := 0, cells := 0, slots := 0, locals := 0 }
abbrev wD_uses : List Cond := Cond.code yD_uses bD_uses 4 (some .boolean) :: tw
theorem kVD_uses {R : Room} {s : State} {args : Array Value} {own : String} {idx : Nat} (h : Cond.methodLink own idx yD_uses ∈ tw) (hR : r0D_uses.frames + 1 ≤ R.frames ∧ 8 + (4 + 11) + r0D_uses.locals ≤ R.locals) : (∀ w ∈ tw, w.before args s = true) → CallW R s args own "TracedCodeModel" idx yD_uses bD_uses 4 (some .boolean) wD_uses r0D_uses 0 0 2 := tw_kV 2 wm_833 ws_D_uses wm_9 wm_834 rfl rfl (by decide +kernel) h hR
abbrev r0D_findCarriers : Room := { frames := 1, cells := 0, slots := 0, locals := 26 }
abbrev wD_findCarriers : List Cond := Cond.code yD_findCarriers bD_findCarriers 5 none :: tw
theorem kVD_findCarriers {R : Room} {s : State} {args : Array Value} {own : String} {idx : Nat} (h : Cond.methodLink own idx yD_findCarriers ∈ tw) (hR : r0D_findCarriers.frames + 1 ≤ R.frames ∧ 8 + (5 + 11) + r0D_findCarriers.locals ≤ R.locals) : (∀ w ∈ tw, w.before args s = true) → CallW R s args own "TracedCodeModel" idx yD_findCarriers bD_findCarriers 5 none wD_findCarriers r0D_findCarriers 0 0 0 := tw_kV 0 wm_837 ws_D_findCarriers wm_9 wm_838 rfl rfl (by decide +kernel) h hR
abbrev r0D_pass : Room := { frames := 0, cells := 0, slots := 0, locals := 0 }
abbrev wD_pass : List Cond := Cond.code yD_pass bD_pass 7 none :: tw
theorem kVD_pass {R : Room} {s : State} {args : Array Value} {own : String} {idx : Nat} (h : Cond.methodLink own idx yD_pass ∈ tw) (hR : r0D_pass.frames + 1 ≤ R.frames ∧ 8 + (7 + 11) + r0D_pass.locals ≤ R.locals) : (∀ w ∈ tw, w.before args s = true) → CallW R s args own "TracedCodeModel" idx yD_pass bD_pass 7 none wD_pass r0D_pass 0 0 1 := tw_kV 1 wm_843 ws_D_pass wm_9 wm_844 rfl rfl (by decide +kernel) h hR
abbrev r0D_spread : Room := { frames := 0, cells := 0, slots := 0, locals := 0 }
abbrev wD_spread : List Cond := Cond.code yD_spread bD_spread 6 (some .boolean) :: tw
theorem kVD_spread {R : Room} {s : State} {args : Array Value} {own : String} {idx : Nat} (h : Cond.methodLink own idx yD_spread ∈ tw) (hR : r0D_spread.frames + 1 ≤ R.frames ∧ 8 + (6 + 11) + r0D_spread.locals ≤ R.locals) : (∀ w ∈ tw, w.before args s = true) → CallW R s args own "TracedCodeModel" idx yD_spread bD_spread 6 (some .boolean) wD_spread r0D_spread 0 0 1 := tw_kV 1 wm_847 ws_D_spread wm_9 wm_848 rfl rfl (by decide +kernel) h hR
abbrev r0D_begin : Room := { frames := 0, cells := 0, slots := 0, locals := 0 }
abbrev wD_begin : List Cond := Cond.code yD_begin bD_begin 2 none :: tw
theorem kVD_begin {R : Room} {s : State} {args : Array Value} {own : String} {idx : Nat} (h : Cond.methodLink own idx yD_begin ∈ tw) (hR : r0D_begin.frames + 1 ≤ R.frames ∧ 8 + (2 + 11) + r0D_begin.locals ≤ R.locals) : (∀ w ∈ tw, w.before args s = true) → CallW R s args own "TracedCodeModel" idx yD_begin bD_begin 2 none wD_begin r0D_begin 0 0 0 := tw_kV 0 wm_851 ws_D_begin wm_9 wm_852 rfl rfl (by decide +kernel) h hR
abbrev r0D_kept : Room := { frames := 0, cells := 0, slots := 0, locals := 0 }
abbrev wD_kept : List Cond := Cond.code yD_kept bD_kept 3 (some .int) :: tw
theorem kVD_kept {R : Room} {s : State} {args : Array Value} {own : String} {idx : Nat} (h : Cond.methodLink own idx yD_kept ∈ tw) (hR : r0D_kept.frames + 1 ≤ R.frames ∧ 8 + (3 + 11) + r0D_kept.locals ≤ R.locals) : (∀ w ∈ tw, w.before args s = true) → CallW R s args own "TracedCodeModel" idx yD_kept bD_kept 3 (some .int) wD_kept r0D_kept 0 0 0 := tw_kV 0 wm_854 wm_855 wm_9 wm_856 rfl rfl (by decide +kernel) h hR
abbrev r0D_part : Room := { frames := 0, cells := 0, slots := 0, locals := 0 }
abbrev wD_part : List Cond := Cond.code yD_part bD_part 4 (some .int) :: tw
theorem kVD_part {R : Room} {s : State} {args : Array Value} {own : String} {idx : Nat} (h : Cond.methodLink own idx yD_part ∈ tw) (hR : r0D_part.frames + 1 ≤ R.frames ∧ 8 + (4 + 11) + r0D_part.locals ≤ R.locals) : (∀ w ∈ tw, w.before args s = true) → CallW R s args own "TracedCodeModel" idx yD_part bD_part 4 (some .int) wD_part r0D_part 0 0 2 := tw_kV 2 wm_858 wm_859 wm_9 wm_860 rfl rfl (by decide +kernel) h hR
abbrev r0D_where : Room := { frames := 2, cells := 0, slots := 0, locals := 48 }
abbrev wD_where : List Cond := Cond.code yD_where bD_where 3 (some .int) :: tw
theorem kVD_where {R : Room} {s : State} {args : Array Value} {own : String} {idx : Nat} (h : Cond.methodLink own idx yD_where ∈ tw) (hR : r0D_where.frames + 1 ≤ R.frames ∧ 8 + (3 + 11) + r0D_where.locals ≤ R.locals) : (∀ w ∈ tw, w.before args s = true) → CallW R s args own "TracedCodeModel" idx yD_where bD_where 3 (some .int) wD_where r0D_where 0 0 2 := tw_kV 2 wm_862 wm_863 wm_9 wm_864 rfl rfl (by decide +kernel) h hR
abbrev r0D_placeOf : Room := { frames := 1, cells := 0, slots := 0, locals := 24 }
abbrev wD_placeOf : List Cond := Cond.code yD_placeOf bD_placeOf 5 (some .int) :: tw
theorem kVD_placeOf {R : Room} {s : State} {args : Array Value} {own : String} {idx : Nat} (h : Cond.methodLink own idx yD_placeOf ∈ tw) (hR : r0D_placeOf.frames + 1 ≤ R.frames ∧ 8 + (5 + 11) + r0D_placeOf.locals ≤ R.locals) : (∀ w ∈ tw, w.before args s = true) → CallW R s args own "TracedCodeModel" idx yD_placeOf bD_placeOf 5 (some .int) wD_placeOf r0D_placeOf 0 0 2 := tw_kV 2 wm_867 ws_D_placeOf wm_9 wm_868 rfl rfl (by decide +kernel) h hR
abbrev r0D_isConstant : Room := { frames := 0, cells := 0, slots := 0, locals := 0 }
abbrev wD_isConstant : List Cond := Cond.code yD_isConstant bD_isConstant 5 (some .boolean) :: tw
theorem kVD_isConstant {R : Room} {s : State} {args : Array Value} {own : String} {idx : Nat} (h : Cond.methodLink own idx yD_isConstant ∈ tw) (hR : r0D_isConstant.frames + 1 ≤ R.frames ∧ 8 + (5 + 11) + r0D_isConstant.locals ≤ R.locals) : (∀ w ∈ tw, w.before args s = true) → CallW R s args own "TracedCodeModel" idx yD_isConstant bD_isConstant 5 (some .boolean) wD_isConstant r0D_isConstant 0 0 1 := tw_kV 1 wm_871 ws_D_isConstant wm_9 wm_872 rfl rfl (by decide +kernel) h hR
abbrev r0D_carriers : Room := { frames := 1, cells := 0, slots := 0, locals := 20 }
abbrev wD_carriers : List Cond := Cond.code yD_carriers bD_carriers 3 (some .int) :: tw
theorem kVD_carriers {R : Room} {s : State} {args : Array Value} {own : String} {idx : Nat} (h : Cond.methodLink own idx yD_carriers ∈ tw) (hR : r0D_carriers.frames + 1 ≤ R.frames ∧ 8 + (3 + 11) + r0D_carriers.locals ≤ R.locals) : (∀ w ∈ tw, w.before args s = true) → CallW R s args own "TracedCodeModel" idx yD_carriers bD_carriers 3 (some .int) wD_carriers r0D_carriers 0 0 2 := tw_kV 2 wm_874 wm_875 wm_9 wm_876 rfl rfl (by decide +kernel) h hR
abbrev r0D_restart : Room := { frames := 1, cells := 0, slots := 0, locals := 21 }
abbrev wD_restart : List Cond := Cond.code yD_restart bD_restart 1 none :: tw
theorem kVD_restart {R : Room} {s : State} {args : Array Value} {own : String} {idx : Nat} (h : Cond.methodLink own idx yD_restart ∈ tw) (hR : r0D_restart.frames + 1 ≤ R.frames ∧ 8 + (1 + 11) + r0D_restart.locals ≤ R.locals) : (∀ w ∈ tw, w.before args s = true) → CallW R s args own "TracedCodeModel" idx yD_restart bD_restart 1 none wD_restart r0D_restart 0 0 0 := tw_kV 0 wm_878 wm_879 wm_9 wm_880 rfl rfl (by decide +kernel) h hR
abbrev r0D_step : Room := { frames := 1, cells := 0, slots := 0, locals := 23 }
abbrev wD_step : List Cond := Cond.code yD_step bD_step 4 (some .int) :: tw
theorem kVD_step {R : Room} {s : State} {args : Array Value} {own : String} {idx : Nat} (h : Cond.methodLink own idx yD_step ∈ tw) (hR : r0D_step.frames + 1 ≤ R.frames ∧ 8 + (4 + 11) + r0D_step.locals ≤ R.locals) : (∀ w ∈ tw, w.before args s = true) → CallW R s args own "TracedCodeModel" idx yD_step bD_step 4 (some .int) wD_step r0D_step 0 0 0 := tw_kV 0 wm_882 wm_883 wm_9 wm_884 rfl rfl (by decide +kernel) h hR
abbrev r0D_does : Room := { frames := 0, cells := 0, slots := 0, locals := 0 }
abbrev wD_does : List Cond := Cond.code yD_does bD_does 4 (some .boolean) :: tw
theorem kVD_does {R : Room} {s : State} {args : Array Value} {own : String} {idx : Nat} (h : Cond.methodLink own idx yD_does ∈ tw) (hR : r0D_does.frames + 1 ≤ R.frames ∧ 8 + (4 + 11) + r0D_does.locals ≤ R.locals) : (∀ w ∈ tw, w.before args s = true) → CallW R s args own "TracedCodeModel" idx yD_does bD_does 4 (some .boolean) wD_does r0D_does 0 0 2 := tw_kV 2 wm_887 ws_D_does wm_9 wm_888 rfl rfl (by decide +kernel) h hR
abbrev r0D_line : Room := { frames := 0, cells := 0, slots := 0, locals := 0 }
abbrev wD_line : List Cond := Cond.code yD_line bD_line 1 (some .int) :: tw
theorem kVD_line {R : Room} {s : State} {args : Array Value} {own : String} {idx : Nat} (h : Cond.methodLink own idx yD_line ∈ tw) (hR : r0D_line.frames + 1 ≤ R.frames ∧ 8 + (1 + 11) + r0D_line.locals ≤ R.locals) : (∀ w ∈ tw, w.before args s = true) → CallW R s args own "TracedCodeModel" idx yD_line bD_line 1 (some .int) wD_line r0D_line 0 0 0 := tw_kV 0 wm_890 wm_891 wm_9 wm_892 rfl rfl (by decide +kernel) h hR
abbrev r0D_register : Room := { frames := 1, cells := 0, slots := 0, locals := 20 }
abbrev wD_register : List Cond := Cond.code yD_register bD_register 3 (some .int) :: tw
theorem kVD_register {R : Room} {s : State} {args : Array Value} {own : String} {idx : Nat} (h : Cond.methodLink own idx yD_register ∈ tw) (hR : r0D_register.frames + 1 ≤ R.frames ∧ 8 + (3 + 11) + r0D_register.locals ≤ R.locals) : (∀ w ∈ tw, w.before args s = true) → CallW R s args own "TracedCodeModel" idx yD_register bD_register 3 (some .int) wD_register r0D_register 0 0 2 := tw_kV 2 wm_894 wm_895 wm_9 wm_896 rfl rfl (by decide +kernel) h hR
abbrev r0D_output : Room := { frames := 0, cells := 0, slots := 0, locals := 0 }
abbrev wD_output : List Cond := Cond.code yD_output bD_output 3 (some .int) :: tw
theorem kVD_output {R : Room} {s : State} {args : Array Value} {own : String} {idx : Nat} (h : Cond.methodLink own idx yD_output ∈ tw) (hR : r0D_output.frames + 1 ≤ R.frames ∧ 8 + (3 + 11) + r0D_output.locals ≤ R.locals) : (∀ w ∈ tw, w.before args s = true) → CallW R s args own "TracedCodeModel" idx yD_output bD_output 3 (some .int) wD_output r0D_output 0 0 2 := tw_kV 2 wm_898 wm_899 wm_9 wm_900 rfl rfl (by decide +kernel) h hR
abbrev r0D_value : Room := { frames := 0, cells := 0, slots := 0, locals := 0 }
abbrev wD_value : List Cond := Cond.code yD_value bD_value 2 (some .int) :: tw
theorem kVD_value {R : Room} {s : State} {args : Array Value} {own : String} {idx : Nat} (h : Cond.methodLink own idx yD_value ∈ tw) (hR : r0D_value.frames + 1 ≤ R.frames ∧ 8 + (2 + 11) + r0D_value.locals ≤ R.locals) : (∀ w ∈ tw, w.before args s = true) → CallW R s args own "TracedCodeModel" idx yD_value bD_value 2 (some .int) wD_value r0D_value 0 0 1 := tw_kV 1 wm_902 wm_903 wm_9 wm_904 rfl rfl (by decide +kernel) h hR
abbrev r0D_read : Room := { frames := 2, cells := 0, slots := 0, locals := 48 }
abbrev wD_read : List Cond := Cond.code yD_read bD_read 4 (some .int) :: tw
theorem kVD_read {R : Room} {s : State} {args : Array Value} {own : String} {idx : Nat} (h : Cond.methodLink own idx yD_read ∈ tw) (hR : r0D_read.frames + 1 ≤ R.frames ∧ 8 + (4 + 11) + r0D_read.locals ≤ R.locals) : (∀ w ∈ tw, w.before args s = true) → CallW R s args own "TracedCodeModel" idx yD_read bD_read 4 (some .int) wD_read r0D_read 0 0 1 := tw_kV 1 wm_906 wm_907 wm_9 wm_908 rfl rfl (by decide +kernel) h hR
end
section
/-! the programs: a Code at the cell k, its rows from the cell b on -/
def tcx_code (k g b : Nat) : Prop := tcx.1[k]? = some (4, 1, [g + 1, 0]) ∧ tcx.1[g]? = some (3, 4, [b]) ∧ ∀ j, j < 4 → tcx.1[b + j]? = some (0, 16, [])
theorem code_1 : tcx_code 1 2 3 := ⟨tb_1, tb_2, by decide +kernel⟩
theorem code_7 : tcx_code 7 8 9 := ⟨tb_7, tb_8, by decide +kernel⟩
set_option maxRecDepth 100000 in
set_option maxHeartbeats 4000000 in
theorem c_C_size (l : Launch) (G : tc_G) (u : tc_S) {k g b : Nat} (hC : tcx_code k g b) : tc_C tcx G l yC_size wC_size r0C_size 0 0 [.ref (tc_ad G k)] u (tc_Ki (u k 1) u) := by
  refine tw_ofV (own := "TracedCode$Code") [some (.ref (tc_ad G k))] (by decide +kernel) rfl (Nat.le_of_ble_eq_true rfl) (by rfl) (fun p e s m args below meth c => ?_)
  refine tv_aload_n (pc := 0) dC_size_0 (by rfl) ?_
  refine tv_getI (pc := 1) 1 hC.1 (by rfl) uwC_ (by decide) wm_36 (by rfl) dC_size_1 ?_
  exact tv_iret (pc := 4) dC_size_4 rfl (Nat.le_refl _) (Nat.le_refl _) ⟨rfl, rfl⟩
set_option maxRecDepth 100000 in
set_option maxHeartbeats 4000000 in
theorem c_C_number (l : Launch) (G : tc_G) (u : tc_S) {k g b : Nat} (hC : tcx_code k g b) {line : Int32} {i : Nat} (hi : tc_ix line 16 i) {place : Int32} {j : Nat} (hj : tc_ix place 4 j) : tc_C tcx G l yC_number wC_number r0C_number 0 0 [.ref (tc_ad G k), .int line, .int place] u (tc_Ki (u (b + j) i) u) := by
  refine tw_ofV (own := "TracedCode$Code") [some (.ref (tc_ad G k)), some (.int line), some (.int place)] (by decide +kernel) rfl (Nat.le_of_ble_eq_true rfl) (by rfl) (fun p e s m args below meth c => ?_)
  refine tv_aload_n (pc := 0) dC_number_0 (by rfl) ?_
  refine tv_getR (pc := 1) 0 hC.1 (by rfl) uwC_ (by decide) wm_35 (by rfl) dC_number_1 ?_
  refine tv_iload_n (pc := 4) dC_number_4 (by rfl) ?_
  refine tv_aald (pc := 5) hC.2.1 hj dC_number_5 ?_
  refine tv_iload_n (pc := 6) dC_number_6 (by rfl) ?_
  refine tv_iald (pc := 7) (hC.2.2 _ hj.2.2) hi dC_number_7 ?_
  exact tv_iret (pc := 8) dC_number_8 rfl (Nat.le_refl _) (Nat.le_refl _) ⟨rfl, rfl⟩
set_option maxRecDepth 100000 in
set_option maxHeartbeats 4000000 in
theorem c_C_kind (l : Launch) (G : tc_G) (u : tc_S) {k g b : Nat} (hC : tcx_code k g b) {line : Int32} {i : Nat} (hi : tc_ix line 16 i) : tc_C tcx G l yC_kind wC_kind r0C_kind 0 0 [.ref (tc_ad G k), .int line] u (tc_Ki (u (b + 0) i) u) := by
  refine tw_ofV (own := "TracedCode$Code") [some (.ref (tc_ad G k)), some (.int line)] (by decide +kernel) rfl (Nat.le_of_ble_eq_true rfl) (by rfl) (fun p e s m args below meth c => ?_)
  refine tv_aload_n (pc := 0) dC_kind_0 (by rfl) ?_
  refine tv_getR (pc := 1) 0 hC.1 (by rfl) uwC_ (by decide) wm_35 (by rfl) dC_kind_1 ?_
  refine tv_iconst (v := 0) (pc := 4) dC_kind_4 (by decide) ?_
  refine tv_aald (pc := 5) (j := 0) hC.2.1 ⟨by decide, by decide, by decide⟩ dC_kind_5 ?_
  refine tv_iload_n (pc := 6) dC_kind_6 (by rfl) ?_
  refine tv_iald (pc := 7) (hC.2.2 0 (by decide)) hi dC_kind_7 ?_
  exact tv_iret (pc := 8) dC_kind_8 rfl (Nat.le_refl _) (Nat.le_refl _) ⟨rfl, rfl⟩
set_option maxRecDepth 100000 in
set_option maxHeartbeats 4000000 in
theorem c_C_dropLines (l : Launch) (G : tc_G) (u : tc_S) {k g b : Nat} (hC : tcx_code k g b) : tc_C tcx G l yC_dropLines wC_dropLines r0C_dropLines 0 0 [.ref (tc_ad G k)] u (tc_Kv (tc_up u k 1 0)) := by
  refine tw_ofV (own := "TracedCode$Code") [some (.ref (tc_ad G k))] (by decide +kernel) rfl (Nat.le_of_ble_eq_true rfl) (by rfl) (fun p e s m args below meth c => ?_)
  refine tv_aload_n (pc := 0) dC_dropLines_0 (by rfl) ?_
  refine tv_iconst (v := 0) (pc := 1) dC_dropLines_1 (by decide) ?_
  refine tv_putI (ty := .int) (pc := 2) 1 tyC_ hC.1 (by rfl) uwC_ (by decide) wm_36 okC_ nmC_ (by rfl) (by decide +kernel) (by rfl) (by rfl) (by rfl) dC_dropLines_2 ?_
  exact tv_vret (pc := 5) dC_dropLines_5 rfl (Nat.le_refl _) (Nat.le_refl _) ⟨rfl, rfl⟩
set_option maxRecDepth 100000 in
set_option maxHeartbeats 4000000 in
theorem c_C_append (l : Launch) (G : tc_G) (u : tc_S) {k g b : Nat} (hC : tcx_code k g b) (kd a1 a2 a3 : Int32) {i : Nat} (hi : tc_ix (u k 1) 16 i) : tc_C tcx G l yC_append wC_append r0C_append 0 0 [.ref (tc_ad G k), .int kd, .int a1, .int a2, .int a3] u (tc_Ki (u k 1) (tc_up (tc_up (tc_up (tc_up (tc_up u (b + 0) i kd) (b + 1) i a1) (b + 2) i a2) (b + 3) i a3) k 1 (u k 1 + 1))) := by
  refine tw_ofV (own := "TracedCode$Code") [some (.ref (tc_ad G k)), some (.int kd), some (.int a1), some (.int a2), some (.int a3), none] (by decide +kernel) rfl (Nat.le_of_ble_eq_true rfl) (by rfl) (fun p e s m args below meth c => ?_)
  refine tv_aload_n (pc := 0) dC_append_0 (by rfl) ?_
  refine tv_getI (pc := 1) 1 hC.1 (by rfl) uwC_ (by decide) wm_36 (by rfl) dC_append_1 ?_
  refine tv_istore5 (pc := 4) dC_append_4 (by rfl) ?_
  refine tv_aload_n (pc := 6) dC_append_6 (by rfl) ?_
  refine tv_getR (pc := 7) 0 hC.1 (by rfl) uwC_ (by decide) wm_35 (by rfl) dC_append_7 ?_
  refine tv_iconst (v := 0) (pc := 10) dC_append_10 (by decide) ?_
  refine tv_aald (pc := 11) (j := 0) hC.2.1 ⟨by decide, by decide, by decide⟩ dC_append_11 ?_
  refine tv_iload (pc := 12) dC_append_12 (by rfl) ?_
  refine tv_iload_n (pc := 14) dC_append_14 (by rfl) ?_
  refine tv_iast (pc := 15) (hC.2.2 0 (by decide)) (by assumption) dC_append_15 ?_
  refine tv_aload_n (pc := 16) dC_append_16 (by rfl) ?_
  refine tv_getR (pc := 17) 0 hC.1 (by rfl) uwC_ (by decide) wm_35 (by rfl) dC_append_17 ?_
  refine tv_iconst (v := 1) (pc := 20) dC_append_20 (by decide) ?_
  refine tv_aald (pc := 21) (j := 1) hC.2.1 ⟨by decide, by decide, by decide⟩ dC_append_21 ?_
  refine tv_iload (pc := 22) dC_append_22 (by rfl) ?_
  refine tv_iload_n (pc := 24) dC_append_24 (by rfl) ?_
  refine tv_iast (pc := 25) (hC.2.2 1 (by decide)) (by assumption) dC_append_25 ?_
  refine tv_aload_n (pc := 26) dC_append_26 (by rfl) ?_
  refine tv_getR (pc := 27) 0 hC.1 (by rfl) uwC_ (by decide) wm_35 (by rfl) dC_append_27 ?_
  refine tv_iconst (v := 2) (pc := 30) dC_append_30 (by decide) ?_
  refine tv_aald (pc := 31) (j := 2) hC.2.1 ⟨by decide, by decide, by decide⟩ dC_append_31 ?_
  refine tv_iload (pc := 32) dC_append_32 (by rfl) ?_
  refine tv_iload_n (pc := 34) dC_append_34 (by rfl) ?_
  refine tv_iast (pc := 35) (hC.2.2 2 (by decide)) (by assumption) dC_append_35 ?_
  refine tv_aload_n (pc := 36) dC_append_36 (by rfl) ?_
  refine tv_getR (pc := 37) 0 hC.1 (by rfl) uwC_ (by decide) wm_35 (by rfl) dC_append_37 ?_
  refine tv_iconst (v := 3) (pc := 40) dC_append_40 (by decide) ?_
  refine tv_aald (pc := 41) (j := 3) hC.2.1 ⟨by decide, by decide, by decide⟩ dC_append_41 ?_
  refine tv_iload (pc := 42) dC_append_42 (by rfl) ?_
  refine tv_iload (pc := 44) dC_append_44 (by rfl) ?_
  refine tv_iast (pc := 46) (hC.2.2 3 (by decide)) (by assumption) dC_append_46 ?_
  refine tv_aload_n (pc := 47) dC_append_47 (by rfl) ?_
  refine tv_iload (pc := 48) dC_append_48 (by rfl) ?_
  refine tv_iconst (v := 1) (pc := 50) dC_append_50 (by decide) ?_
  refine tv_iadd (pc := 51) dC_append_51 ?_
  refine tv_putI (ty := .int) (pc := 52) 1 tyC_ hC.1 (by rfl) uwC_ (by decide) wm_36 okC_ nmC_ (by rfl) (by decide +kernel) (by rfl) (by rfl) (by rfl) dC_append_52 ?_
  refine tv_iload (pc := 55) dC_append_55 (by rfl) ?_
  exact tv_iret (pc := 57) dC_append_57 rfl (Nat.le_refl _) (Nat.le_refl _) ⟨rfl, rfl⟩
set_option maxRecDepth 100000 in
set_option maxHeartbeats 4000000 in
theorem c_C_makeEmpty (l : Launch) (G : tc_G) (u : tc_S) {k g b : Nat} (hC : tcx_code k g b) {line : Int32} {i : Nat} (hi : tc_ix line 16 i) : tc_C tcx G l yC_makeEmpty wC_makeEmpty r0C_makeEmpty 0 0 [.ref (tc_ad G k), .int line] u (tc_Kv (tc_up (tc_up (tc_up (tc_up u (b + 0) i (-1)) (b + 1) i 0) (b + 2) i 0) (b + 3) i 0)) := by
  refine tw_ofV (own := "TracedCode$Code") [some (.ref (tc_ad G k)), some (.int line)] (by decide +kernel) rfl (Nat.le_of_ble_eq_true rfl) (by rfl) (fun p e s m args below meth c => ?_)
  refine tv_aload_n (pc := 0) dC_makeEmpty_0 (by rfl) ?_
  refine tv_getR (pc := 1) 0 hC.1 (by rfl) uwC_ (by decide) wm_35 (by rfl) dC_makeEmpty_1 ?_
  refine tv_iconst (v := 0) (pc := 4) dC_makeEmpty_4 (by decide) ?_
  refine tv_aald (pc := 5) (j := 0) hC.2.1 ⟨by decide, by decide, by decide⟩ dC_makeEmpty_5 ?_
  refine tv_iload_n (pc := 6) dC_makeEmpty_6 (by rfl) ?_
  refine tv_iconst (v := (-1)) (pc := 7) dC_makeEmpty_7 (by decide) ?_
  refine tv_iast (pc := 8) (hC.2.2 0 (by decide)) hi dC_makeEmpty_8 ?_
  refine tv_aload_n (pc := 9) dC_makeEmpty_9 (by rfl) ?_
  refine tv_getR (pc := 10) 0 hC.1 (by rfl) uwC_ (by decide) wm_35 (by rfl) dC_makeEmpty_10 ?_
  refine tv_iconst (v := 1) (pc := 13) dC_makeEmpty_13 (by decide) ?_
  refine tv_aald (pc := 14) (j := 1) hC.2.1 ⟨by decide, by decide, by decide⟩ dC_makeEmpty_14 ?_
  refine tv_iload_n (pc := 15) dC_makeEmpty_15 (by rfl) ?_
  refine tv_iconst (v := 0) (pc := 16) dC_makeEmpty_16 (by decide) ?_
  refine tv_iast (pc := 17) (hC.2.2 1 (by decide)) hi dC_makeEmpty_17 ?_
  refine tv_aload_n (pc := 18) dC_makeEmpty_18 (by rfl) ?_
  refine tv_getR (pc := 19) 0 hC.1 (by rfl) uwC_ (by decide) wm_35 (by rfl) dC_makeEmpty_19 ?_
  refine tv_iconst (v := 2) (pc := 22) dC_makeEmpty_22 (by decide) ?_
  refine tv_aald (pc := 23) (j := 2) hC.2.1 ⟨by decide, by decide, by decide⟩ dC_makeEmpty_23 ?_
  refine tv_iload_n (pc := 24) dC_makeEmpty_24 (by rfl) ?_
  refine tv_iconst (v := 0) (pc := 25) dC_makeEmpty_25 (by decide) ?_
  refine tv_iast (pc := 26) (hC.2.2 2 (by decide)) hi dC_makeEmpty_26 ?_
  refine tv_aload_n (pc := 27) dC_makeEmpty_27 (by rfl) ?_
  refine tv_getR (pc := 28) 0 hC.1 (by rfl) uwC_ (by decide) wm_35 (by rfl) dC_makeEmpty_28 ?_
  refine tv_iconst (v := 3) (pc := 31) dC_makeEmpty_31 (by decide) ?_
  refine tv_aald (pc := 32) (j := 3) hC.2.1 ⟨by decide, by decide, by decide⟩ dC_makeEmpty_32 ?_
  refine tv_iload_n (pc := 33) dC_makeEmpty_33 (by rfl) ?_
  refine tv_iconst (v := 0) (pc := 34) dC_makeEmpty_34 (by decide) ?_
  refine tv_iast (pc := 35) (hC.2.2 3 (by decide)) hi dC_makeEmpty_35 ?_
  exact tv_vret (pc := 36) dC_makeEmpty_36 rfl (Nat.le_refl _) (Nat.le_refl _) ⟨rfl, rfl⟩
set_option maxRecDepth 100000 in
set_option maxHeartbeats 4000000 in
theorem c_C_isEmpty (l : Launch) (G : tc_G) (u : tc_S) {k g b : Nat} (hC : tcx_code k g b) {line : Int32} {i : Nat} (hi : tc_ix line 16 i) : tc_C tcx G l yC_isEmpty wC_isEmpty r0C_isEmpty 0 0 [.ref (tc_ad G k), .int line] u (tc_Ki (if u (b + 0) i = -1 then 1 else 0) u) := by
  refine tw_ofV (own := "TracedCode$Code") [some (.ref (tc_ad G k)), some (.int line)] (by decide +kernel) rfl (Nat.le_of_ble_eq_true rfl) (by rfl) (fun p e s m args below meth c => ?_)
  refine tv_aload_n (pc := 0) dC_isEmpty_0 (by rfl) ?_
  refine tv_getR (pc := 1) 0 hC.1 (by rfl) uwC_ (by decide) wm_35 (by rfl) dC_isEmpty_1 ?_
  refine tv_iconst (v := 0) (pc := 4) dC_isEmpty_4 (by decide) ?_
  refine tv_aald (pc := 5) (j := 0) hC.2.1 ⟨by decide, by decide, by decide⟩ dC_isEmpty_5 ?_
  refine tv_iload_n (pc := 6) dC_isEmpty_6 (by rfl) ?_
  refine tv_iald (pc := 7) (hC.2.2 0 (by decide)) hi dC_isEmpty_7 ?_
  refine tv_iconst (v := (-1)) (pc := 8) dC_isEmpty_8 (by decide) ?_
  refine tv_icmp_ne (pc := 9) 16 dC_isEmpty_9 (by decide) (fun h9 => ?_) (fun h9 => ?_)
  · skip
    refine tv_iconst (v := 0) (pc := 16) dC_isEmpty_16 (by decide) ?_
    exact tv_zret (pc := 17) dC_isEmpty_17 rfl (Nat.le_refl _) (Nat.le_refl _) (by rfl)  ⟨by first | rw [if_pos (by assumption)] | rw [if_neg (by assumption)], rfl⟩
  · skip
    refine tv_iconst (v := 1) (pc := 12) dC_isEmpty_12 (by decide) ?_
    refine tv_goto (pc := 13) 17 dC_isEmpty_13 (by decide) ?_
    exact tv_zret (pc := 17) dC_isEmpty_17 rfl (Nat.le_refl _) (Nat.le_refl _) (by rfl)  ⟨by first | rw [if_pos (by assumption)] | rw [if_neg (by assumption)], rfl⟩
set_option maxRecDepth 100000 in
set_option maxHeartbeats 4000000 in
theorem c_C_readInstead (l : Launch) (G : tc_G) (u : tc_S) {k g b : Nat} (hC : tcx_code k g b) {line : Int32} {i : Nat} (hi : tc_ix line 16 i) {place : Int32} {j : Nat} (hj : tc_ix place 4 j) (x : Int32) : tc_C tcx G l yC_readInstead wC_readInstead r0C_readInstead 0 0 [.ref (tc_ad G k), .int line, .int place, .int x] u (tc_Kv (tc_up u (b + j) i x)) := by
  refine tw_ofV (own := "TracedCode$Code") [some (.ref (tc_ad G k)), some (.int line), some (.int place), some (.int x)] (by decide +kernel) rfl (Nat.le_of_ble_eq_true rfl) (by rfl) (fun p e s m args below meth c => ?_)
  refine tv_aload_n (pc := 0) dC_readInstead_0 (by rfl) ?_
  refine tv_getR (pc := 1) 0 hC.1 (by rfl) uwC_ (by decide) wm_35 (by rfl) dC_readInstead_1 ?_
  refine tv_iload_n (pc := 4) dC_readInstead_4 (by rfl) ?_
  refine tv_aald (pc := 5) hC.2.1 hj dC_readInstead_5 ?_
  refine tv_iload_n (pc := 6) dC_readInstead_6 (by rfl) ?_
  refine tv_iload_n (pc := 7) dC_readInstead_7 (by rfl) ?_
  refine tv_iast (pc := 8) (hC.2.2 _ hj.2.2) hi dC_readInstead_8 ?_
  exact tv_vret (pc := 9) dC_readInstead_9 rfl (Nat.le_refl _) (Nat.le_refl _) ⟨rfl, rfl⟩
end
section
/-- a program's numbers as they lie in the cells -/
def pv (u : tc_S) (b : Nat) : tp_P := fun j i => u (b + j) i
/-- 1 where it holds, else 0 -/
noncomputable def tp_b (p : Prop) : Int32 := @ite _ p (Classical.propDecidable p) 1 0
theorem tp_b_t {p : Prop} (h : p) : tp_b p = 1 := by unfold tp_b; rw [if_pos h]
theorem tp_b_f {p : Prop} (h : ¬ p) : tp_b p = 0 := by unfold tp_b; rw [if_neg h]
theorem tp_b_z {p : Prop} : narrow .boolean (.int (tp_b p)) = .int (tp_b p) := by
  by_cases h : p
  · rw [tp_b_t h]; rfl
  · rw [tp_b_f h]; rfl
theorem tp_b_iff {p q : Prop} (h : p ↔ q) : tp_b p = tp_b q := by
  by_cases k : p
  · rw [tp_b_t k, tp_b_t (h.mp k)]
  · rw [tp_b_f k, tp_b_f (fun z => k (h.mpr z))]
def tp_wI (P : tp_P) (i : Nat) : Int32 := if P 0 i = 0 ∨ P 0 i = 1 ∨ P 0 i = 2 then P 1 i else -1
set_option maxRecDepth 100000 in
set_option maxHeartbeats 4000000 in
theorem c_C_written (l : Launch) (G : tc_G) (u : tc_S) {k g b : Nat} (hC : tcx_code k g b) {line : Int32} {i : Nat} (hi : tc_ix line 16 i) : tc_C tcx G l yC_written wC_written r0C_written 0 0 [.ref (tc_ad G k), .int line] u (tc_Ki (tp_wI (pv u b) i) u) := by
  refine tw_ofV (own := "TracedCode$Code") [some (.ref (tc_ad G k)), some (.int line), none] (by decide +kernel) rfl (Nat.le_of_ble_eq_true rfl) (by rfl) (fun p e s m args below meth c => ?_)
  have hA : ∀ x : Int32, (u (b + 0) i = 0 ∨ u (b + 0) i = 1 ∨ u (b + 0) i = 2) → x = u (b + 1) i → tc_Ki (tp_wI (pv u b) i) u (.returned (some (.int x))) u := fun x h e => ⟨by unfold tp_wI pv; rw [if_pos h, e], rfl⟩
  have hB : ¬ (u (b + 0) i = 0 ∨ u (b + 0) i = 1 ∨ u (b + 0) i = 2) → tc_Ki (tp_wI (pv u b) i) u (.returned (some (.int (-1)))) u := fun h => ⟨by unfold tp_wI pv; rw [if_neg h], rfl⟩
  refine tv_aload_n (pc := 0) dC_written_0 (by rfl) ?_
  refine tv_getR (pc := 1) 0 hC.1 (by rfl) uwC_ (by decide) wm_35 (by rfl) dC_written_1 ?_
  refine tv_iconst (v := 0) (pc := 4) dC_written_4 (by decide) ?_
  refine tv_aald (pc := 5) (j := 0) hC.2.1 ⟨by decide, by decide, by decide⟩ dC_written_5 ?_
  refine tv_iload_n (pc := 6) dC_written_6 (by rfl) ?_
  refine tv_iald (pc := 7) (hC.2.2 0 (by decide)) hi dC_written_7 ?_
  refine tv_istore2 (pc := 8) dC_written_8 (by rfl) ?_
  refine tv_iload_n (pc := 9) dC_written_9 (by rfl) ?_
  refine tv_if_eq (pc := 10) 23 dC_written_10 (by decide) (fun h10 => ?_) (fun h10 => ?_)
  · skip
    refine tv_aload_n (pc := 23) dC_written_23 (by rfl) ?_
    refine tv_getR (pc := 24) 0 hC.1 (by rfl) uwC_ (by decide) wm_35 (by rfl) dC_written_24 ?_
    refine tv_iconst (v := 1) (pc := 27) dC_written_27 (by decide) ?_
    refine tv_aald (pc := 28) (j := 1) hC.2.1 ⟨by decide, by decide, by decide⟩ dC_written_28 ?_
    refine tv_iload_n (pc := 29) dC_written_29 (by rfl) ?_
    refine tv_iald (pc := 30) (hC.2.2 1 (by decide)) hi dC_written_30 ?_
    refine tv_goto (pc := 31) 35 dC_written_31 (by decide) ?_
    exact tv_iret (pc := 35) dC_written_35 rfl (Nat.le_refl _) (Nat.le_refl _) (by first | exact hA _ (by simp_all) rfl | exact hB (by simp_all))
  · skip
    refine tv_iload_n (pc := 13) dC_written_13 (by rfl) ?_
    refine tv_iconst (v := 1) (pc := 14) dC_written_14 (by decide) ?_
    refine tv_icmp_eq (pc := 15) 23 dC_written_15 (by decide) (fun h15 => ?_) (fun h15 => ?_)
    · skip
      refine tv_aload_n (pc := 23) dC_written_23 (by rfl) ?_
      refine tv_getR (pc := 24) 0 hC.1 (by rfl) uwC_ (by decide) wm_35 (by rfl) dC_written_24 ?_
      refine tv_iconst (v := 1) (pc := 27) dC_written_27 (by decide) ?_
      refine tv_aald (pc := 28) (j := 1) hC.2.1 ⟨by decide, by decide, by decide⟩ dC_written_28 ?_
      refine tv_iload_n (pc := 29) dC_written_29 (by rfl) ?_
      refine tv_iald (pc := 30) (hC.2.2 1 (by decide)) hi dC_written_30 ?_
      refine tv_goto (pc := 31) 35 dC_written_31 (by decide) ?_
      exact tv_iret (pc := 35) dC_written_35 rfl (Nat.le_refl _) (Nat.le_refl _) (by first | exact hA _ (by simp_all) rfl | exact hB (by simp_all))
    · skip
      refine tv_iload_n (pc := 18) dC_written_18 (by rfl) ?_
      refine tv_iconst (v := 2) (pc := 19) dC_written_19 (by decide) ?_
      refine tv_icmp_ne (pc := 20) 34 dC_written_20 (by decide) (fun h20 => ?_) (fun h20 => ?_)
      · skip
        refine tv_iconst (v := (-1)) (pc := 34) dC_written_34 (by decide) ?_
        exact tv_iret (pc := 35) dC_written_35 rfl (Nat.le_refl _) (Nat.le_refl _) (by first | exact hA _ (by simp_all) rfl | exact hB (by simp_all))
      · skip
        refine tv_aload_n (pc := 23) dC_written_23 (by rfl) ?_
        refine tv_getR (pc := 24) 0 hC.1 (by rfl) uwC_ (by decide) wm_35 (by rfl) dC_written_24 ?_
        refine tv_iconst (v := 1) (pc := 27) dC_written_27 (by decide) ?_
        refine tv_aald (pc := 28) (j := 1) hC.2.1 ⟨by decide, by decide, by decide⟩ dC_written_28 ?_
        refine tv_iload_n (pc := 29) dC_written_29 (by rfl) ?_
        refine tv_iald (pc := 30) (hC.2.2 1 (by decide)) hi dC_written_30 ?_
        refine tv_goto (pc := 31) 35 dC_written_31 (by decide) ?_
        exact tv_iret (pc := 35) dC_written_35 rfl (Nat.le_refl _) (Nat.le_refl _) (by first | exact hA _ (by simp_all) rfl | exact hB (by simp_all))
set_option maxRecDepth 100000 in
set_option maxHeartbeats 4000000 in
theorem c_C_target (l : Launch) (G : tc_G) (u : tc_S) {k g b : Nat} (hC : tcx_code k g b) {i n : Nat} (hi : tc_ix (nI i) 16 i) (hs : u k 1 = nI n) (hn : n ≤ 16) (h4 : pv u b 0 i = 4 → ∃ a, a < 17 ∧ pv u b 2 i = nI a) : tc_C tcx G l yC_target wC_target r0C_target 0 0 [.ref (tc_ad G k), .int (nI i)] u (tc_Ki (nI (tp_tg n (pv u b) i)) u) := by
  refine tw_ofV (own := "TracedCode$Code") [some (.ref (tc_ad G k)), some (.int (nI i))] (by decide +kernel) rfl (Nat.le_of_ble_eq_true rfl) (by rfl) (fun p e s m args below meth c => ?_)
  have hA : ¬ u (b + 0) i = 4 → tc_Ki (nI (tp_tg n (pv u b) i)) u (.returned (some (.int (nI i + 1)))) u := fun h => ⟨by unfold tp_tg pv; rw [if_neg h, nI_1], rfl⟩
  have hB : u (b + 0) i = 4 → u (b + 2) i < u k 1 → tc_Ki (nI (tp_tg n (pv u b) i)) u (.returned (some (.int (u (b + 2) i)))) u := fun h h2 => by
    obtain ⟨a, ha, ea⟩ := h4 h
    have ea : u (b + 2) i = nI a := ea
    rw [ea, hs] at h2
    have h3 := (nI_ltI (by omega) (by omega)).mp h2
    refine ⟨?_, rfl⟩
    unfold tp_tg pv tp_n
    rw [if_pos h, ea, nI_clamp (by omega), if_pos h3]
  have hD : u (b + 0) i = 4 → ¬ u (b + 2) i < u k 1 → tc_Ki (nI (tp_tg n (pv u b) i)) u (.returned (some (.int (u k 1)))) u := fun h h2 => by
    obtain ⟨a, ha, ea⟩ := h4 h
    have ea : u (b + 2) i = nI a := ea
    rw [ea, hs] at h2
    have h3 : ¬ a < n := fun q => h2 ((nI_ltI (by omega) (by omega)).mpr q)
    refine ⟨?_, rfl⟩
    unfold tp_tg pv tp_n
    rw [if_pos h, ea, nI_clamp (by omega), if_neg h3, hs]
  refine tv_aload_n (pc := 0) dC_target_0 (by rfl) ?_
  refine tv_getR (pc := 1) 0 hC.1 (by rfl) uwC_ (by decide) wm_35 (by rfl) dC_target_1 ?_
  refine tv_iconst (v := 0) (pc := 4) dC_target_4 (by decide) ?_
  refine tv_aald (pc := 5) (j := 0) hC.2.1 ⟨by decide, by decide, by decide⟩ dC_target_5 ?_
  refine tv_iload_n (pc := 6) dC_target_6 (by rfl) ?_
  refine tv_iald (pc := 7) (hC.2.2 0 (by decide)) hi dC_target_7 ?_
  refine tv_iconst (v := 4) (pc := 8) dC_target_8 (by decide) ?_
  refine tv_icmp_eq (pc := 9) 16 dC_target_9 (by decide) (fun h9 => ?_) (fun h9 => ?_)
  · skip
    refine tv_aload_n (pc := 16) dC_target_16 (by rfl) ?_
    refine tv_getR (pc := 17) 0 hC.1 (by rfl) uwC_ (by decide) wm_35 (by rfl) dC_target_17 ?_
    refine tv_iconst (v := 2) (pc := 20) dC_target_20 (by decide) ?_
    refine tv_aald (pc := 21) (j := 2) hC.2.1 ⟨by decide, by decide, by decide⟩ dC_target_21 ?_
    refine tv_iload_n (pc := 22) dC_target_22 (by rfl) ?_
    refine tv_iald (pc := 23) (hC.2.2 2 (by decide)) hi dC_target_23 ?_
    refine tv_aload_n (pc := 24) dC_target_24 (by rfl) ?_
    refine tv_getI (pc := 25) 1 hC.1 (by rfl) uwC_ (by decide) wm_36 (by rfl) dC_target_25 ?_
    refine tv_icmp_ge (pc := 28) 42 dC_target_28 (by decide) (fun h28 => ?_) (fun h28 => ?_)
    · skip
      refine tv_aload_n (pc := 42) dC_target_42 (by rfl) ?_
      refine tv_getI (pc := 43) 1 hC.1 (by rfl) uwC_ (by decide) wm_36 (by rfl) dC_target_43 ?_
      exact tv_iret (pc := 46) dC_target_46 rfl (Nat.le_refl _) (Nat.le_refl _) (by first | exact hA (by assumption) | exact hB (by assumption) (Int32.not_le.mp (by assumption)) | exact hD (by assumption) (Int32.not_lt.mpr (by assumption)))
    · skip
      refine tv_aload_n (pc := 31) dC_target_31 (by rfl) ?_
      refine tv_getR (pc := 32) 0 hC.1 (by rfl) uwC_ (by decide) wm_35 (by rfl) dC_target_32 ?_
      refine tv_iconst (v := 2) (pc := 35) dC_target_35 (by decide) ?_
      refine tv_aald (pc := 36) (j := 2) hC.2.1 ⟨by decide, by decide, by decide⟩ dC_target_36 ?_
      refine tv_iload_n (pc := 37) dC_target_37 (by rfl) ?_
      refine tv_iald (pc := 38) (hC.2.2 2 (by decide)) hi dC_target_38 ?_
      refine tv_goto (pc := 39) 46 dC_target_39 (by decide) ?_
      exact tv_iret (pc := 46) dC_target_46 rfl (Nat.le_refl _) (Nat.le_refl _) (by first | exact hA (by assumption) | exact hB (by assumption) (Int32.not_le.mp (by assumption)) | exact hD (by assumption) (Int32.not_lt.mpr (by assumption)))
  · skip
    refine tv_iload_n (pc := 12) dC_target_12 (by rfl) ?_
    refine tv_iconst (v := 1) (pc := 13) dC_target_13 (by decide) ?_
    refine tv_iadd (pc := 14) dC_target_14 ?_
    exact tv_iret (pc := 15) dC_target_15 rfl (Nat.le_refl _) (Nat.le_refl _) (by first | exact hA (by assumption) | exact hB (by assumption) (Int32.not_le.mp (by assumption)) | exact hD (by assumption) (Int32.not_lt.mpr (by assumption)))
set_option maxRecDepth 100000 in
set_option maxHeartbeats 4000000 in
theorem c_C_readsAt (l : Launch) (G : tc_G) (u : tc_S) {k g b : Nat} (hC : tcx_code k g b) {line : Int32} {i : Nat} (hi : tc_ix line 16 i) {place : Int32} {j : Nat} (hj : j < 4) (hpl : place = nI j) (hl : tp_line (pv u b) i) : tc_C tcx G l yC_readsAt wC_readsAt r0C_readsAt 0 0 [.ref (tc_ad G k), .int line, .int place] u (tc_Ki (tp_b (tp_rd (pv u b) i j)) u) := by
  refine tw_ofV (own := "TracedCode$Code") [some (.ref (tc_ad G k)), some (.int line), some (.int place), none] (by decide +kernel) rfl (Nat.le_of_ble_eq_true rfl) (by rfl) (fun p e s m args below meth c => ?_)
  have hA : u (b + 0) i = -1 → tc_Ki (tp_b (tp_rd (pv u b) i j)) u (.returned (some (.int 0))) u := fun h => by
    refine ⟨?_, rfl⟩
    rw [tp_b_f]
    have h : pv u b 0 i = -1 := h
    rintro (⟨-, q⟩ | ⟨-, q⟩ | ⟨-, q⟩) <;> rw [h] at q <;> exact absurd q (by decide)
  have hK : ¬ u (b + 0) i = -1 → ∃ κ : Nat, κ < 6 ∧ u (b + 0) i = nI κ := fun h => by
    rcases hl.1 with q | q | q | q | q | q | q
    · exact absurd q h
    · exact ⟨0, by decide, q⟩
    · exact ⟨1, by decide, q⟩
    · exact ⟨2, by decide, q⟩
    · exact ⟨3, by decide, q⟩
    · exact ⟨4, by decide, q⟩
    · exact ⟨5, by decide, q⟩
  have hT : ∀ κ : Nat, κ < 6 → u (b + 0) i = nI κ → ((([0, 4, 12, 2, 2, 4] : List Int32).getD κ 0 >>> (place &&& 31)) &&& 1 = 0 ↔ ¬ tp_rd (pv u b) i j) := fun κ h1 h2 => by
    have h2 : pv u b 0 i = nI κ := h2
    unfold tp_rd
    rw [h2, hpl]
    have key : ∀ κ : Fin 6, ∀ j : Fin 4, ((([0, 4, 12, 2, 2, 4] : List Int32).getD κ.val 0 >>> (nI j.val &&& 31)) &&& 1 = 0 ↔ ¬ ((j.val = 1 ∧ (nI κ.val = 3 ∨ nI κ.val = 4)) ∨ (j.val = 2 ∧ (nI κ.val = 1 ∨ nI κ.val = 2 ∨ nI κ.val = 5)) ∨ (j.val = 3 ∧ nI κ.val = 2))) := by decide +kernel
    exact key ⟨κ, h1⟩ ⟨j, hj⟩
  refine tv_aload_n (pc := 0) dC_readsAt_0 (by rfl) ?_
  refine tv_getR (pc := 1) 0 hC.1 (by rfl) uwC_ (by decide) wm_35 (by rfl) dC_readsAt_1 ?_
  refine tv_iconst (v := 0) (pc := 4) dC_readsAt_4 (by decide) ?_
  refine tv_aald (pc := 5) (j := 0) hC.2.1 ⟨by decide, by decide, by decide⟩ dC_readsAt_5 ?_
  refine tv_iload_n (pc := 6) dC_readsAt_6 (by rfl) ?_
  refine tv_iald (pc := 7) (hC.2.2 0 (by decide)) hi dC_readsAt_7 ?_
  refine tv_istore3 (pc := 8) dC_readsAt_8 (by rfl) ?_
  refine tv_iload_n (pc := 9) dC_readsAt_9 (by rfl) ?_
  refine tv_iconst (v := (-1)) (pc := 10) dC_readsAt_10 (by decide) ?_
  refine tv_icmp_eq (pc := 11) 30 dC_readsAt_11 (by decide) (fun h11 => ?_) (fun h11 => ?_)
  · skip
    refine tv_iconst (v := 0) (pc := 30) dC_readsAt_30 (by decide) ?_
    exact tv_zret (pc := 31) dC_readsAt_31 rfl (Nat.le_refl _) (Nat.le_refl _) (by rfl)  (by first | exact hA (by assumption) | exact ⟨by rw [tp_b_f ((hT κ hκ1 hκ2).mp (by assumption))], rfl⟩ | exact ⟨by rw [tp_b_t (Classical.byContradiction fun q => (by assumption : ¬ _) ((hT κ hκ1 hκ2).mpr q))], rfl⟩)
  · skip
    obtain ⟨κ, hκ1, hκ2⟩ := hK (by assumption)
    refine tv_gets (ta := [0, 4, 12, 2, 2, 4]) (pc := 14) (List.mem_singleton.mpr rfl) wm_259 dC_readsAt_14 (fun t14 hT14 => ?_)
    refine tv_iload_n (pc := 17) dC_readsAt_17 (by rfl) ?_
    refine tv_tald (pc := 18) (j := κ) hT14 ⟨by rw [hκ2]; exact nI_pos (by omega), by rw [hκ2]; exact nI_clamp (by omega), hκ1⟩ (by rfl) dC_readsAt_18 ?_
    refine tv_iload_n (pc := 19) dC_readsAt_19 (by rfl) ?_
    refine tv_ishr (pc := 20) dC_readsAt_20 ?_
    refine tv_iconst (v := 1) (pc := 21) dC_readsAt_21 (by decide) ?_
    refine tv_iand (pc := 22) dC_readsAt_22 ?_
    refine tv_if_eq (pc := 23) 30 dC_readsAt_23 (by decide) (fun h23 => ?_) (fun h23 => ?_)
    · skip
      refine tv_iconst (v := 0) (pc := 30) dC_readsAt_30 (by decide) ?_
      exact tv_zret (pc := 31) dC_readsAt_31 rfl (Nat.le_refl _) (Nat.le_refl _) (by rfl)  (by first | exact hA (by assumption) | exact ⟨by rw [tp_b_f ((hT κ hκ1 hκ2).mp (by assumption))], rfl⟩ | exact ⟨by rw [tp_b_t (Classical.byContradiction fun q => (by assumption : ¬ _) ((hT κ hκ1 hκ2).mpr q))], rfl⟩)
    · skip
      refine tv_iconst (v := 1) (pc := 26) dC_readsAt_26 (by decide) ?_
      refine tv_goto (pc := 27) 31 dC_readsAt_27 (by decide) ?_
      exact tv_zret (pc := 31) dC_readsAt_31 rfl (Nat.le_refl _) (Nat.le_refl _) (by rfl)  (by first | exact hA (by assumption) | exact ⟨by rw [tp_b_f ((hT κ hκ1 hκ2).mp (by assumption))], rfl⟩ | exact ⟨by rw [tp_b_t (Classical.byContradiction fun q => (by assumption : ¬ _) ((hT κ hκ1 hκ2).mpr q))], rfl⟩)
end
section
def tp_sh (x : Int32) : Int32 := 1 <<< (x &&& 31)
noncomputable def tp_ns (P : tp_P) (i j : Nat) (a : Int32) : Int32 := @ite _ (tp_rd P i j) (Classical.propDecidable _) (a ||| tp_sh (P j i)) a
/-- the registers that a line reads so that they are live before it -/
noncomputable def tp_nd (P : tp_P) (i : Nat) : Int32 := if P 0 i = 5 then 0 else tp_ns P i 3 (tp_ns P i 2 (tp_ns P i 1 0))
theorem tp_ns_z {P : tp_P} {i j : Nat} {a : Int32} (h : tp_b (tp_rd P i j) = 0) : tp_ns P i j a = a := by
  unfold tp_ns
  by_cases k : tp_rd P i j
  · rw [tp_b_t k] at h; exact absurd h (by decide)
  · rw [if_neg k]
theorem tp_ns_o {P : tp_P} {i j : Nat} {a : Int32} (h : ¬ tp_b (tp_rd P i j) = 0) : tp_ns P i j a = a ||| tp_sh (P j i) := by
  unfold tp_ns
  by_cases k : tp_rd P i j
  · rw [if_pos k]
  · exact absurd (tp_b_f k) h
/-- how many lines are left -/
def tp_cn (P : tp_P) : Nat → Nat
  | 0 => 0
  | i + 1 => if P 0 i = -1 then tp_cn P i else tp_cn P i + 1
theorem tp_cn_s (P : tp_P) (i : Nat) : tp_cn P (i + 1) = if P 0 i = -1 then tp_cn P i else tp_cn P i + 1 := rfl
theorem tp_cn_le (P : tp_P) : ∀ n, tp_cn P n ≤ n
  | 0 => Nat.le_refl 0
  | n + 1 => by
    have := tp_cn_le P n
    unfold tp_cn
    split <;> omega
set_option maxRecDepth 100000 in
set_option maxHeartbeats 4000000 in
theorem c_C_needed (l : Launch) (G : tc_G) (u : tc_S) {k g b : Nat} (hC : tcx_code k g b) {line : Int32} {i : Nat} (hi : tc_ix line 16 i) (hl : tp_line (pv u b) i) : tc_C tcx G l yC_needed wC_needed r0C_needed 0 0 [.ref (tc_ad G k), .int line] u (tc_Ki (tp_nd (pv u b) i) u) := by
  refine tw_ofV (own := "TracedCode$Code") [some (.ref (tc_ad G k)), some (.int line), none, none] (by decide +kernel) rfl (Nat.le_of_ble_eq_true rfl) (by rfl) (fun p e s m args below meth c => ?_)
  refine tv_aload_n (pc := 0) dC_needed_0 (by rfl) ?_
  refine tv_getR (pc := 1) 0 hC.1 (by rfl) uwC_ (by decide) wm_35 (by rfl) dC_needed_1 ?_
  refine tv_iconst (v := 0) (pc := 4) dC_needed_4 (by decide) ?_
  refine tv_aald (pc := 5) (j := 0) hC.2.1 ⟨by decide, by decide, by decide⟩ dC_needed_5 ?_
  refine tv_iload_n (pc := 6) dC_needed_6 (by rfl) ?_
  refine tv_iald (pc := 7) (hC.2.2 0 (by decide)) hi dC_needed_7 ?_
  refine tv_iconst (v := 5) (pc := 8) dC_needed_8 (by decide) ?_
  refine tv_icmp_ne (pc := 9) 14 dC_needed_9 (by decide) (fun h9 => ?_) (fun h9 => ?_)
  · skip
    refine tv_iconst (v := 0) (pc := 14) dC_needed_14 (by decide) ?_
    refine tv_istore2 (pc := 15) dC_needed_15 (by rfl) ?_
    refine tv_iconst (v := 1) (pc := 16) dC_needed_16 (by decide) ?_
    refine tv_istore3 (pc := 17) dC_needed_17 (by rfl) ?_
    refine tv_iload_n (pc := 18) dC_needed_18 (by rfl) ?_
    refine tv_iconst (v := 4) (pc := 19) dC_needed_19 (by decide) ?_
    refine tv_icmp_ge (pc := 20) 51 dC_needed_20 (by decide) (fun h => absurd h (by decide)) (fun _ => ?_)
    refine tv_aload_n (pc := 23) dC_needed_23 (by rfl) ?_
    refine tv_iload_n (pc := 24) dC_needed_24 (by rfl) ?_
    refine tv_iload_n (pc := 25) dC_needed_25 (by rfl) ?_
    refine tv_callVi (pc := 26) [_, _] hC.1 (by rfl) (c_C_readsAt l G u hC hi (j := 1) (by decide) (by decide) hl) (kVC_readsAt wm_300 ⟨by decide, by decide⟩) (by rfl) (by decide) dC_needed_26 ⟨by decide, by decide⟩ ?_
    refine tv_if_eq (pc := 29) 45 dC_needed_29 (by decide) (fun h29 => ?_) (fun h29 => ?_)
    · skip
      refine tv_iinc3 (v := 1) (pc := 45) dC_needed_45 (by decide) (by rfl) ?_
      refine tv_goto (pc := 48) 18 dC_needed_48 (by decide) ?_
      refine tv_iload_n (pc := 18) dC_needed_18 (by rfl) ?_
      refine tv_iconst (v := 4) (pc := 19) dC_needed_19 (by decide) ?_
      refine tv_icmp_ge (pc := 20) 51 dC_needed_20 (by decide) (fun h => absurd h (by decide)) (fun _ => ?_)
      refine tv_aload_n (pc := 23) dC_needed_23 (by rfl) ?_
      refine tv_iload_n (pc := 24) dC_needed_24 (by rfl) ?_
      refine tv_iload_n (pc := 25) dC_needed_25 (by rfl) ?_
      refine tv_callVi (pc := 26) [_, _] hC.1 (by rfl) (c_C_readsAt l G u hC hi (j := 2) (by decide) (by decide) hl) (kVC_readsAt wm_300 ⟨by decide, by decide⟩) (by rfl) (by decide) dC_needed_26 ⟨by decide, by decide⟩ ?_
      refine tv_if_eq (pc := 29) 45 dC_needed_29 (by decide) (fun h29 => ?_) (fun h29 => ?_)
      · skip
        refine tv_iinc3 (v := 1) (pc := 45) dC_needed_45 (by decide) (by rfl) ?_
        refine tv_goto (pc := 48) 18 dC_needed_48 (by decide) ?_
        refine tv_iload_n (pc := 18) dC_needed_18 (by rfl) ?_
        refine tv_iconst (v := 4) (pc := 19) dC_needed_19 (by decide) ?_
        refine tv_icmp_ge (pc := 20) 51 dC_needed_20 (by decide) (fun h => absurd h (by decide)) (fun _ => ?_)
        refine tv_aload_n (pc := 23) dC_needed_23 (by rfl) ?_
        refine tv_iload_n (pc := 24) dC_needed_24 (by rfl) ?_
        refine tv_iload_n (pc := 25) dC_needed_25 (by rfl) ?_
        refine tv_callVi (pc := 26) [_, _] hC.1 (by rfl) (c_C_readsAt l G u hC hi (j := 3) (by decide) (by decide) hl) (kVC_readsAt wm_300 ⟨by decide, by decide⟩) (by rfl) (by decide) dC_needed_26 ⟨by decide, by decide⟩ ?_
        refine tv_if_eq (pc := 29) 45 dC_needed_29 (by decide) (fun h29 => ?_) (fun h29 => ?_)
        · skip
          refine tv_iinc3 (v := 1) (pc := 45) dC_needed_45 (by decide) (by rfl) ?_
          refine tv_goto (pc := 48) 18 dC_needed_48 (by decide) ?_
          refine tv_iload_n (pc := 18) dC_needed_18 (by rfl) ?_
          refine tv_iconst (v := 4) (pc := 19) dC_needed_19 (by decide) ?_
          refine tv_icmp_ge (pc := 20) 51 dC_needed_20 (by decide) (fun _ => ?_) (fun h => absurd (by decide) h)
          refine tv_iload_n (pc := 51) dC_needed_51 (by rfl) ?_
          exact tv_iret (pc := 52) dC_needed_52 rfl (Nat.le_refl _) (Nat.le_refl _) (by first | (refine ⟨?_, rfl⟩; unfold tp_nd; rw [if_neg (by assumption)]; (first | rw [tp_ns_z (j := 3) (by assumption)] | rw [tp_ns_o (j := 3) (by assumption)]); (first | rw [tp_ns_z (j := 2) (by assumption)] | rw [tp_ns_o (j := 2) (by assumption)]); (first | rw [tp_ns_z (j := 1) (by assumption)] | rw [tp_ns_o (j := 1) (by assumption)]); try rfl) | exact ⟨by unfold tp_nd; rw [if_pos (by assumption)], rfl⟩)
        · skip
          refine tv_iload_n (pc := 32) dC_needed_32 (by rfl) ?_
          refine tv_iconst (v := 1) (pc := 33) dC_needed_33 (by decide) ?_
          refine tv_aload_n (pc := 34) dC_needed_34 (by rfl) ?_
          refine tv_getR (pc := 35) 0 hC.1 (by rfl) uwC_ (by decide) wm_35 (by rfl) dC_needed_35 ?_
          refine tv_iload_n (pc := 38) dC_needed_38 (by rfl) ?_
          refine tv_aald (pc := 39) (j := 3) hC.2.1 ⟨by decide, by decide, by decide⟩ dC_needed_39 ?_
          refine tv_iload_n (pc := 40) dC_needed_40 (by rfl) ?_
          refine tv_iald (pc := 41) (hC.2.2 3 (by decide)) hi dC_needed_41 ?_
          refine tv_ishl (pc := 42) dC_needed_42 ?_
          refine tv_ior (pc := 43) dC_needed_43 ?_
          refine tv_istore2 (pc := 44) dC_needed_44 (by rfl) ?_
          refine tv_iinc3 (v := 1) (pc := 45) dC_needed_45 (by decide) (by rfl) ?_
          refine tv_goto (pc := 48) 18 dC_needed_48 (by decide) ?_
          refine tv_iload_n (pc := 18) dC_needed_18 (by rfl) ?_
          refine tv_iconst (v := 4) (pc := 19) dC_needed_19 (by decide) ?_
          refine tv_icmp_ge (pc := 20) 51 dC_needed_20 (by decide) (fun _ => ?_) (fun h => absurd (by decide) h)
          refine tv_iload_n (pc := 51) dC_needed_51 (by rfl) ?_
          exact tv_iret (pc := 52) dC_needed_52 rfl (Nat.le_refl _) (Nat.le_refl _) (by first | (refine ⟨?_, rfl⟩; unfold tp_nd; rw [if_neg (by assumption)]; (first | rw [tp_ns_z (j := 3) (by assumption)] | rw [tp_ns_o (j := 3) (by assumption)]); (first | rw [tp_ns_z (j := 2) (by assumption)] | rw [tp_ns_o (j := 2) (by assumption)]); (first | rw [tp_ns_z (j := 1) (by assumption)] | rw [tp_ns_o (j := 1) (by assumption)]); try rfl) | exact ⟨by unfold tp_nd; rw [if_pos (by assumption)], rfl⟩)
      · skip
        refine tv_iload_n (pc := 32) dC_needed_32 (by rfl) ?_
        refine tv_iconst (v := 1) (pc := 33) dC_needed_33 (by decide) ?_
        refine tv_aload_n (pc := 34) dC_needed_34 (by rfl) ?_
        refine tv_getR (pc := 35) 0 hC.1 (by rfl) uwC_ (by decide) wm_35 (by rfl) dC_needed_35 ?_
        refine tv_iload_n (pc := 38) dC_needed_38 (by rfl) ?_
        refine tv_aald (pc := 39) (j := 2) hC.2.1 ⟨by decide, by decide, by decide⟩ dC_needed_39 ?_
        refine tv_iload_n (pc := 40) dC_needed_40 (by rfl) ?_
        refine tv_iald (pc := 41) (hC.2.2 2 (by decide)) hi dC_needed_41 ?_
        refine tv_ishl (pc := 42) dC_needed_42 ?_
        refine tv_ior (pc := 43) dC_needed_43 ?_
        refine tv_istore2 (pc := 44) dC_needed_44 (by rfl) ?_
        refine tv_iinc3 (v := 1) (pc := 45) dC_needed_45 (by decide) (by rfl) ?_
        refine tv_goto (pc := 48) 18 dC_needed_48 (by decide) ?_
        refine tv_iload_n (pc := 18) dC_needed_18 (by rfl) ?_
        refine tv_iconst (v := 4) (pc := 19) dC_needed_19 (by decide) ?_
        refine tv_icmp_ge (pc := 20) 51 dC_needed_20 (by decide) (fun h => absurd h (by decide)) (fun _ => ?_)
        refine tv_aload_n (pc := 23) dC_needed_23 (by rfl) ?_
        refine tv_iload_n (pc := 24) dC_needed_24 (by rfl) ?_
        refine tv_iload_n (pc := 25) dC_needed_25 (by rfl) ?_
        refine tv_callVi (pc := 26) [_, _] hC.1 (by rfl) (c_C_readsAt l G u hC hi (j := 3) (by decide) (by decide) hl) (kVC_readsAt wm_300 ⟨by decide, by decide⟩) (by rfl) (by decide) dC_needed_26 ⟨by decide, by decide⟩ ?_
        refine tv_if_eq (pc := 29) 45 dC_needed_29 (by decide) (fun h29 => ?_) (fun h29 => ?_)
        · skip
          refine tv_iinc3 (v := 1) (pc := 45) dC_needed_45 (by decide) (by rfl) ?_
          refine tv_goto (pc := 48) 18 dC_needed_48 (by decide) ?_
          refine tv_iload_n (pc := 18) dC_needed_18 (by rfl) ?_
          refine tv_iconst (v := 4) (pc := 19) dC_needed_19 (by decide) ?_
          refine tv_icmp_ge (pc := 20) 51 dC_needed_20 (by decide) (fun _ => ?_) (fun h => absurd (by decide) h)
          refine tv_iload_n (pc := 51) dC_needed_51 (by rfl) ?_
          exact tv_iret (pc := 52) dC_needed_52 rfl (Nat.le_refl _) (Nat.le_refl _) (by first | (refine ⟨?_, rfl⟩; unfold tp_nd; rw [if_neg (by assumption)]; (first | rw [tp_ns_z (j := 3) (by assumption)] | rw [tp_ns_o (j := 3) (by assumption)]); (first | rw [tp_ns_z (j := 2) (by assumption)] | rw [tp_ns_o (j := 2) (by assumption)]); (first | rw [tp_ns_z (j := 1) (by assumption)] | rw [tp_ns_o (j := 1) (by assumption)]); try rfl) | exact ⟨by unfold tp_nd; rw [if_pos (by assumption)], rfl⟩)
        · skip
          refine tv_iload_n (pc := 32) dC_needed_32 (by rfl) ?_
          refine tv_iconst (v := 1) (pc := 33) dC_needed_33 (by decide) ?_
          refine tv_aload_n (pc := 34) dC_needed_34 (by rfl) ?_
          refine tv_getR (pc := 35) 0 hC.1 (by rfl) uwC_ (by decide) wm_35 (by rfl) dC_needed_35 ?_
          refine tv_iload_n (pc := 38) dC_needed_38 (by rfl) ?_
          refine tv_aald (pc := 39) (j := 3) hC.2.1 ⟨by decide, by decide, by decide⟩ dC_needed_39 ?_
          refine tv_iload_n (pc := 40) dC_needed_40 (by rfl) ?_
          refine tv_iald (pc := 41) (hC.2.2 3 (by decide)) hi dC_needed_41 ?_
          refine tv_ishl (pc := 42) dC_needed_42 ?_
          refine tv_ior (pc := 43) dC_needed_43 ?_
          refine tv_istore2 (pc := 44) dC_needed_44 (by rfl) ?_
          refine tv_iinc3 (v := 1) (pc := 45) dC_needed_45 (by decide) (by rfl) ?_
          refine tv_goto (pc := 48) 18 dC_needed_48 (by decide) ?_
          refine tv_iload_n (pc := 18) dC_needed_18 (by rfl) ?_
          refine tv_iconst (v := 4) (pc := 19) dC_needed_19 (by decide) ?_
          refine tv_icmp_ge (pc := 20) 51 dC_needed_20 (by decide) (fun _ => ?_) (fun h => absurd (by decide) h)
          refine tv_iload_n (pc := 51) dC_needed_51 (by rfl) ?_
          exact tv_iret (pc := 52) dC_needed_52 rfl (Nat.le_refl _) (Nat.le_refl _) (by first | (refine ⟨?_, rfl⟩; unfold tp_nd; rw [if_neg (by assumption)]; (first | rw [tp_ns_z (j := 3) (by assumption)] | rw [tp_ns_o (j := 3) (by assumption)]); (first | rw [tp_ns_z (j := 2) (by assumption)] | rw [tp_ns_o (j := 2) (by assumption)]); (first | rw [tp_ns_z (j := 1) (by assumption)] | rw [tp_ns_o (j := 1) (by assumption)]); try rfl) | exact ⟨by unfold tp_nd; rw [if_pos (by assumption)], rfl⟩)
    · skip
      refine tv_iload_n (pc := 32) dC_needed_32 (by rfl) ?_
      refine tv_iconst (v := 1) (pc := 33) dC_needed_33 (by decide) ?_
      refine tv_aload_n (pc := 34) dC_needed_34 (by rfl) ?_
      refine tv_getR (pc := 35) 0 hC.1 (by rfl) uwC_ (by decide) wm_35 (by rfl) dC_needed_35 ?_
      refine tv_iload_n (pc := 38) dC_needed_38 (by rfl) ?_
      refine tv_aald (pc := 39) (j := 1) hC.2.1 ⟨by decide, by decide, by decide⟩ dC_needed_39 ?_
      refine tv_iload_n (pc := 40) dC_needed_40 (by rfl) ?_
      refine tv_iald (pc := 41) (hC.2.2 1 (by decide)) hi dC_needed_41 ?_
      refine tv_ishl (pc := 42) dC_needed_42 ?_
      refine tv_ior (pc := 43) dC_needed_43 ?_
      refine tv_istore2 (pc := 44) dC_needed_44 (by rfl) ?_
      refine tv_iinc3 (v := 1) (pc := 45) dC_needed_45 (by decide) (by rfl) ?_
      refine tv_goto (pc := 48) 18 dC_needed_48 (by decide) ?_
      refine tv_iload_n (pc := 18) dC_needed_18 (by rfl) ?_
      refine tv_iconst (v := 4) (pc := 19) dC_needed_19 (by decide) ?_
      refine tv_icmp_ge (pc := 20) 51 dC_needed_20 (by decide) (fun h => absurd h (by decide)) (fun _ => ?_)
      refine tv_aload_n (pc := 23) dC_needed_23 (by rfl) ?_
      refine tv_iload_n (pc := 24) dC_needed_24 (by rfl) ?_
      refine tv_iload_n (pc := 25) dC_needed_25 (by rfl) ?_
      refine tv_callVi (pc := 26) [_, _] hC.1 (by rfl) (c_C_readsAt l G u hC hi (j := 2) (by decide) (by decide) hl) (kVC_readsAt wm_300 ⟨by decide, by decide⟩) (by rfl) (by decide) dC_needed_26 ⟨by decide, by decide⟩ ?_
      refine tv_if_eq (pc := 29) 45 dC_needed_29 (by decide) (fun h29 => ?_) (fun h29 => ?_)
      · skip
        refine tv_iinc3 (v := 1) (pc := 45) dC_needed_45 (by decide) (by rfl) ?_
        refine tv_goto (pc := 48) 18 dC_needed_48 (by decide) ?_
        refine tv_iload_n (pc := 18) dC_needed_18 (by rfl) ?_
        refine tv_iconst (v := 4) (pc := 19) dC_needed_19 (by decide) ?_
        refine tv_icmp_ge (pc := 20) 51 dC_needed_20 (by decide) (fun h => absurd h (by decide)) (fun _ => ?_)
        refine tv_aload_n (pc := 23) dC_needed_23 (by rfl) ?_
        refine tv_iload_n (pc := 24) dC_needed_24 (by rfl) ?_
        refine tv_iload_n (pc := 25) dC_needed_25 (by rfl) ?_
        refine tv_callVi (pc := 26) [_, _] hC.1 (by rfl) (c_C_readsAt l G u hC hi (j := 3) (by decide) (by decide) hl) (kVC_readsAt wm_300 ⟨by decide, by decide⟩) (by rfl) (by decide) dC_needed_26 ⟨by decide, by decide⟩ ?_
        refine tv_if_eq (pc := 29) 45 dC_needed_29 (by decide) (fun h29 => ?_) (fun h29 => ?_)
        · skip
          refine tv_iinc3 (v := 1) (pc := 45) dC_needed_45 (by decide) (by rfl) ?_
          refine tv_goto (pc := 48) 18 dC_needed_48 (by decide) ?_
          refine tv_iload_n (pc := 18) dC_needed_18 (by rfl) ?_
          refine tv_iconst (v := 4) (pc := 19) dC_needed_19 (by decide) ?_
          refine tv_icmp_ge (pc := 20) 51 dC_needed_20 (by decide) (fun _ => ?_) (fun h => absurd (by decide) h)
          refine tv_iload_n (pc := 51) dC_needed_51 (by rfl) ?_
          exact tv_iret (pc := 52) dC_needed_52 rfl (Nat.le_refl _) (Nat.le_refl _) (by first | (refine ⟨?_, rfl⟩; unfold tp_nd; rw [if_neg (by assumption)]; (first | rw [tp_ns_z (j := 3) (by assumption)] | rw [tp_ns_o (j := 3) (by assumption)]); (first | rw [tp_ns_z (j := 2) (by assumption)] | rw [tp_ns_o (j := 2) (by assumption)]); (first | rw [tp_ns_z (j := 1) (by assumption)] | rw [tp_ns_o (j := 1) (by assumption)]); try rfl) | exact ⟨by unfold tp_nd; rw [if_pos (by assumption)], rfl⟩)
        · skip
          refine tv_iload_n (pc := 32) dC_needed_32 (by rfl) ?_
          refine tv_iconst (v := 1) (pc := 33) dC_needed_33 (by decide) ?_
          refine tv_aload_n (pc := 34) dC_needed_34 (by rfl) ?_
          refine tv_getR (pc := 35) 0 hC.1 (by rfl) uwC_ (by decide) wm_35 (by rfl) dC_needed_35 ?_
          refine tv_iload_n (pc := 38) dC_needed_38 (by rfl) ?_
          refine tv_aald (pc := 39) (j := 3) hC.2.1 ⟨by decide, by decide, by decide⟩ dC_needed_39 ?_
          refine tv_iload_n (pc := 40) dC_needed_40 (by rfl) ?_
          refine tv_iald (pc := 41) (hC.2.2 3 (by decide)) hi dC_needed_41 ?_
          refine tv_ishl (pc := 42) dC_needed_42 ?_
          refine tv_ior (pc := 43) dC_needed_43 ?_
          refine tv_istore2 (pc := 44) dC_needed_44 (by rfl) ?_
          refine tv_iinc3 (v := 1) (pc := 45) dC_needed_45 (by decide) (by rfl) ?_
          refine tv_goto (pc := 48) 18 dC_needed_48 (by decide) ?_
          refine tv_iload_n (pc := 18) dC_needed_18 (by rfl) ?_
          refine tv_iconst (v := 4) (pc := 19) dC_needed_19 (by decide) ?_
          refine tv_icmp_ge (pc := 20) 51 dC_needed_20 (by decide) (fun _ => ?_) (fun h => absurd (by decide) h)
          refine tv_iload_n (pc := 51) dC_needed_51 (by rfl) ?_
          exact tv_iret (pc := 52) dC_needed_52 rfl (Nat.le_refl _) (Nat.le_refl _) (by first | (refine ⟨?_, rfl⟩; unfold tp_nd; rw [if_neg (by assumption)]; (first | rw [tp_ns_z (j := 3) (by assumption)] | rw [tp_ns_o (j := 3) (by assumption)]); (first | rw [tp_ns_z (j := 2) (by assumption)] | rw [tp_ns_o (j := 2) (by assumption)]); (first | rw [tp_ns_z (j := 1) (by assumption)] | rw [tp_ns_o (j := 1) (by assumption)]); try rfl) | exact ⟨by unfold tp_nd; rw [if_pos (by assumption)], rfl⟩)
      · skip
        refine tv_iload_n (pc := 32) dC_needed_32 (by rfl) ?_
        refine tv_iconst (v := 1) (pc := 33) dC_needed_33 (by decide) ?_
        refine tv_aload_n (pc := 34) dC_needed_34 (by rfl) ?_
        refine tv_getR (pc := 35) 0 hC.1 (by rfl) uwC_ (by decide) wm_35 (by rfl) dC_needed_35 ?_
        refine tv_iload_n (pc := 38) dC_needed_38 (by rfl) ?_
        refine tv_aald (pc := 39) (j := 2) hC.2.1 ⟨by decide, by decide, by decide⟩ dC_needed_39 ?_
        refine tv_iload_n (pc := 40) dC_needed_40 (by rfl) ?_
        refine tv_iald (pc := 41) (hC.2.2 2 (by decide)) hi dC_needed_41 ?_
        refine tv_ishl (pc := 42) dC_needed_42 ?_
        refine tv_ior (pc := 43) dC_needed_43 ?_
        refine tv_istore2 (pc := 44) dC_needed_44 (by rfl) ?_
        refine tv_iinc3 (v := 1) (pc := 45) dC_needed_45 (by decide) (by rfl) ?_
        refine tv_goto (pc := 48) 18 dC_needed_48 (by decide) ?_
        refine tv_iload_n (pc := 18) dC_needed_18 (by rfl) ?_
        refine tv_iconst (v := 4) (pc := 19) dC_needed_19 (by decide) ?_
        refine tv_icmp_ge (pc := 20) 51 dC_needed_20 (by decide) (fun h => absurd h (by decide)) (fun _ => ?_)
        refine tv_aload_n (pc := 23) dC_needed_23 (by rfl) ?_
        refine tv_iload_n (pc := 24) dC_needed_24 (by rfl) ?_
        refine tv_iload_n (pc := 25) dC_needed_25 (by rfl) ?_
        refine tv_callVi (pc := 26) [_, _] hC.1 (by rfl) (c_C_readsAt l G u hC hi (j := 3) (by decide) (by decide) hl) (kVC_readsAt wm_300 ⟨by decide, by decide⟩) (by rfl) (by decide) dC_needed_26 ⟨by decide, by decide⟩ ?_
        refine tv_if_eq (pc := 29) 45 dC_needed_29 (by decide) (fun h29 => ?_) (fun h29 => ?_)
        · skip
          refine tv_iinc3 (v := 1) (pc := 45) dC_needed_45 (by decide) (by rfl) ?_
          refine tv_goto (pc := 48) 18 dC_needed_48 (by decide) ?_
          refine tv_iload_n (pc := 18) dC_needed_18 (by rfl) ?_
          refine tv_iconst (v := 4) (pc := 19) dC_needed_19 (by decide) ?_
          refine tv_icmp_ge (pc := 20) 51 dC_needed_20 (by decide) (fun _ => ?_) (fun h => absurd (by decide) h)
          refine tv_iload_n (pc := 51) dC_needed_51 (by rfl) ?_
          exact tv_iret (pc := 52) dC_needed_52 rfl (Nat.le_refl _) (Nat.le_refl _) (by first | (refine ⟨?_, rfl⟩; unfold tp_nd; rw [if_neg (by assumption)]; (first | rw [tp_ns_z (j := 3) (by assumption)] | rw [tp_ns_o (j := 3) (by assumption)]); (first | rw [tp_ns_z (j := 2) (by assumption)] | rw [tp_ns_o (j := 2) (by assumption)]); (first | rw [tp_ns_z (j := 1) (by assumption)] | rw [tp_ns_o (j := 1) (by assumption)]); try rfl) | exact ⟨by unfold tp_nd; rw [if_pos (by assumption)], rfl⟩)
        · skip
          refine tv_iload_n (pc := 32) dC_needed_32 (by rfl) ?_
          refine tv_iconst (v := 1) (pc := 33) dC_needed_33 (by decide) ?_
          refine tv_aload_n (pc := 34) dC_needed_34 (by rfl) ?_
          refine tv_getR (pc := 35) 0 hC.1 (by rfl) uwC_ (by decide) wm_35 (by rfl) dC_needed_35 ?_
          refine tv_iload_n (pc := 38) dC_needed_38 (by rfl) ?_
          refine tv_aald (pc := 39) (j := 3) hC.2.1 ⟨by decide, by decide, by decide⟩ dC_needed_39 ?_
          refine tv_iload_n (pc := 40) dC_needed_40 (by rfl) ?_
          refine tv_iald (pc := 41) (hC.2.2 3 (by decide)) hi dC_needed_41 ?_
          refine tv_ishl (pc := 42) dC_needed_42 ?_
          refine tv_ior (pc := 43) dC_needed_43 ?_
          refine tv_istore2 (pc := 44) dC_needed_44 (by rfl) ?_
          refine tv_iinc3 (v := 1) (pc := 45) dC_needed_45 (by decide) (by rfl) ?_
          refine tv_goto (pc := 48) 18 dC_needed_48 (by decide) ?_
          refine tv_iload_n (pc := 18) dC_needed_18 (by rfl) ?_
          refine tv_iconst (v := 4) (pc := 19) dC_needed_19 (by decide) ?_
          refine tv_icmp_ge (pc := 20) 51 dC_needed_20 (by decide) (fun _ => ?_) (fun h => absurd (by decide) h)
          refine tv_iload_n (pc := 51) dC_needed_51 (by rfl) ?_
          exact tv_iret (pc := 52) dC_needed_52 rfl (Nat.le_refl _) (Nat.le_refl _) (by first | (refine ⟨?_, rfl⟩; unfold tp_nd; rw [if_neg (by assumption)]; (first | rw [tp_ns_z (j := 3) (by assumption)] | rw [tp_ns_o (j := 3) (by assumption)]); (first | rw [tp_ns_z (j := 2) (by assumption)] | rw [tp_ns_o (j := 2) (by assumption)]); (first | rw [tp_ns_z (j := 1) (by assumption)] | rw [tp_ns_o (j := 1) (by assumption)]); try rfl) | exact ⟨by unfold tp_nd; rw [if_pos (by assumption)], rfl⟩)
  · skip
    refine tv_iconst (v := 0) (pc := 12) dC_needed_12 (by decide) ?_
    exact tv_iret (pc := 13) dC_needed_13 rfl (Nat.le_refl _) (Nat.le_refl _) (by first | (refine ⟨?_, rfl⟩; unfold tp_nd; rw [if_neg (by assumption)]; (first | rw [tp_ns_z (j := 3) (by assumption)] | rw [tp_ns_o (j := 3) (by assumption)]); (first | rw [tp_ns_z (j := 2) (by assumption)] | rw [tp_ns_o (j := 2) (by assumption)]); (first | rw [tp_ns_z (j := 1) (by assumption)] | rw [tp_ns_o (j := 1) (by assumption)]); try rfl) | exact ⟨by unfold tp_nd; rw [if_pos (by assumption)], rfl⟩)
set_option maxRecDepth 100000 in
set_option maxHeartbeats 4000000 in
theorem c_C_fullLines (l : Launch) (G : tc_G) (u : tc_S) {k g b : Nat} (hC : tcx_code k g b) {n : Nat} (hs : u k 1 = nI n) (hn : n ≤ 16) : tc_C tcx G l yC_fullLines wC_fullLines r0C_fullLines 0 0 [.ref (tc_ad G k)] u (tc_Ki (nI (tp_cn (pv u b) n)) u) := by
  refine tw_ofV (own := "TracedCode$Code") [some (.ref (tc_ad G k)), none, none] (by decide +kernel) rfl (Nat.le_of_ble_eq_true rfl) (by rfl) (fun p e s m args below meth c => ?_)
  have loop : ∀ d i : Nat, i + d = n → tc_V tcx G p l e r0C_fullLines s m args below meth c bC_fullLines 3 tw "TracedCode$Code" (some .int) [] (MQ below (tc_Qc tcx G (tc_Ki (nI (tp_cn (pv u b) n)) u) s.heap.size) args s 0 0 (tc_A tcx G s.heap.size)) 0 0 u 4 [some (.ref (tc_ad G k)), some (.int (nI (tp_cn (pv u b) i))), some (.int (nI i))] [] := by
    intro d
    induction d with
    | zero =>
      intro i hd
      have e : i = n := by omega
      subst e
      refine tv_iload_n (pc := 4) dC_fullLines_4 (by rfl) ?_
      refine tv_aload_n (pc := 5) dC_fullLines_5 (by rfl) ?_
      refine tv_getI (pc := 6) 1 hC.1 (by rfl) uwC_ (by decide) wm_36 (by rfl) dC_fullLines_6 ?_
      refine tv_icmp_ge (pc := 9) 29 dC_fullLines_9 (by decide) (fun _ => ?_) (fun h => absurd (by rw [hs]; exact Int32.le_refl _) h)
      refine tv_iload_n (pc := 29) dC_fullLines_29 (by rfl) ?_
      exact tv_iret (pc := 30) dC_fullLines_30 rfl (Nat.le_refl _) (Nat.le_refl _) ⟨rfl, rfl⟩
    | succ d ih =>
      intro i hd
      have hi : tc_ix (nI i) 16 i := tc_ixN (by omega) (by decide)
      have ih := ih (i + 1) (by omega)
      refine tv_iload_n (pc := 4) dC_fullLines_4 (by rfl) ?_
      refine tv_aload_n (pc := 5) dC_fullLines_5 (by rfl) ?_
      refine tv_getI (pc := 6) 1 hC.1 (by rfl) uwC_ (by decide) wm_36 (by rfl) dC_fullLines_6 ?_
      refine tv_icmp_ge (pc := 9) 29 dC_fullLines_9 (by decide) (fun h => absurd h (by rw [hs]; exact nI_ge (by omega) (by omega))) (fun _ => ?_)
      refine tv_aload_n (pc := 12) dC_fullLines_12 (by rfl) ?_
      refine tv_iload_n (pc := 13) dC_fullLines_13 (by rfl) ?_
      refine tv_callVi (pc := 14) [_] hC.1 (by rfl) (c_C_isEmpty l G u hC hi) (kVC_isEmpty wm_479 ⟨by decide, by decide⟩) (by rfl) (by decide) dC_fullLines_14 ⟨by decide, by decide⟩ ?_
      refine tv_if_ne (pc := 17) 23 dC_fullLines_17 (by decide) (fun h17 => ?_) (fun h17 => ?_)
      · skip
        refine tv_iinc2 (v := 1) (pc := 23) dC_fullLines_23 (by decide) (by rfl) ?_
        refine tv_goto (pc := 26) 4 dC_fullLines_26 (by decide) ?_
        first
        | (rw [show tp_cn (pv u b) (i + 1) = tp_cn (pv u b) i from by rw [tp_cn_s, if_pos (show pv u b 0 i = -1 from Classical.byContradiction fun q => (by assumption : ¬ _ = (0 : Int32)) (if_neg q))], ← nI_1] at ih; exact ih)
        | (rw [show tp_cn (pv u b) (i + 1) = tp_cn (pv u b) i + 1 from by rw [tp_cn_s, if_neg (show ¬ pv u b 0 i = -1 from fun q => absurd ((if_pos q).symm.trans (by assumption : _ = (0 : Int32))) (by decide))], ← nI_1, ← nI_1] at ih; exact ih)
      · skip
        refine tv_iinc1 (v := 1) (pc := 20) dC_fullLines_20 (by decide) (by rfl) ?_
        refine tv_iinc2 (v := 1) (pc := 23) dC_fullLines_23 (by decide) (by rfl) ?_
        refine tv_goto (pc := 26) 4 dC_fullLines_26 (by decide) ?_
        first
        | (rw [show tp_cn (pv u b) (i + 1) = tp_cn (pv u b) i from by rw [tp_cn_s, if_pos (show pv u b 0 i = -1 from Classical.byContradiction fun q => (by assumption : ¬ _ = (0 : Int32)) (if_neg q))], ← nI_1] at ih; exact ih)
        | (rw [show tp_cn (pv u b) (i + 1) = tp_cn (pv u b) i + 1 from by rw [tp_cn_s, if_neg (show ¬ pv u b 0 i = -1 from fun q => absurd ((if_pos q).symm.trans (by assumption : _ = (0 : Int32))) (by decide))], ← nI_1, ← nI_1] at ih; exact ih)
  refine tv_iconst (v := 0) (pc := 0) dC_fullLines_0 (by decide) ?_
  refine tv_istore1 (pc := 1) dC_fullLines_1 (by rfl) ?_
  refine tv_iconst (v := 0) (pc := 2) dC_fullLines_2 (by decide) ?_
  refine tv_istore2 (pc := 3) dC_fullLines_3 (by rfl) ?_
  exact loop n 0 (by omega)
/-- the short program's lines are the program's -/
def tc_take (u : tc_S) (n : Nat) : tc_S := fun q => if q = 7 then upd (u 7) 1 (nI n) else if 9 ≤ q ∧ q < 13 then va_cpy (u (q - 6)) (u q) 0 0 n else u q
set_option maxRecDepth 100000 in
set_option maxHeartbeats 4000000 in
theorem c_C_takeLines (l : Launch) (G : tc_G) (u : tc_S) {n : Nat} (hs : u 1 1 = nI n) (hn : n ≤ 16) : tc_C tcx G l yC_takeLines wC_takeLines r0C_takeLines 0 0 [.ref (tc_ad G 7), .ref (tc_ad G 1)] u (tc_Kv (tc_take u n)) := by
  have hc : ∀ w : tc_S, w 7 1 = nI n → tc_ix (w 7 1) (n + 1) n := fun w h => by rw [h]; exact tc_ixN (by omega) (by omega)
  have h0 : tc_up u 7 1 (u 1 1) 7 1 = nI n := by rw [tc_up_self, hs]
  refine tw_ofV (own := "TracedCode$Code") [some (.ref (tc_ad G 7)), some (.ref (tc_ad G 1)), none] (by decide +kernel) rfl (Nat.le_of_ble_eq_true rfl) (by rfl) (fun p e s m args below meth c => ?_)
  refine tv_aload_n (pc := 0) dC_takeLines_0 (by rfl) ?_
  refine tv_aload_n (pc := 1) dC_takeLines_1 (by rfl) ?_
  refine tv_getI (pc := 2) 1 tb_1 (by rfl) uwC_ (by decide) wm_36 (by rfl) dC_takeLines_2 ?_
  refine tv_putI (ty := .int) (pc := 5) 1 tyC_ tb_7 (by rfl) uwC_ (by decide) wm_36 okC_ nmC_ (by rfl) (by decide +kernel) (by rfl) (by rfl) (by rfl) dC_takeLines_5 ?_
  refine tv_iconst (v := 0) (pc := 8) dC_takeLines_8 (by decide) ?_
  refine tv_istore2 (pc := 9) dC_takeLines_9 (by rfl) ?_
  refine tv_iload_n (pc := 10) dC_takeLines_10 (by rfl) ?_
  refine tv_iconst (v := 4) (pc := 11) dC_takeLines_11 (by decide) ?_
  refine tv_icmp_ge (pc := 12) 42 dC_takeLines_12 (by decide) (fun h => absurd h (by decide)) (fun _ => ?_)
  refine tv_aload_n (pc := 15) dC_takeLines_15 (by rfl) ?_
  refine tv_getR (pc := 16) 0 tb_1 (by rfl) uwC_ (by decide) wm_35 (by rfl) dC_takeLines_16 ?_
  refine tv_iload_n (pc := 19) dC_takeLines_19 (by rfl) ?_
  refine tv_aald (pc := 20) (j := 0) tb_2 ⟨by decide, by decide, by decide⟩ dC_takeLines_20 ?_
  refine tv_iconst (v := 0) (pc := 21) dC_takeLines_21 (by decide) ?_
  refine tv_aload_n (pc := 22) dC_takeLines_22 (by rfl) ?_
  refine tv_getR (pc := 23) 0 tb_7 (by rfl) uwC_ (by decide) wm_35 (by rfl) dC_takeLines_23 ?_
  refine tv_iload_n (pc := 26) dC_takeLines_26 (by rfl) ?_
  refine tv_aald (pc := 27) (j := 0) tb_8 ⟨by decide, by decide, by decide⟩ dC_takeLines_27 ?_
  refine tv_iconst (v := 0) (pc := 28) dC_takeLines_28 (by decide) ?_
  refine tv_aload_n (pc := 29) dC_takeLines_29 (by rfl) ?_
  refine tv_getI (pc := 30) 1 tb_7 (by rfl) uwC_ (by decide) wm_36 (by rfl) dC_takeLines_30 ?_
  refine tv_copy (pc := 33) (code_1.2.2 0 (by decide)) (code_7.2.2 0 (by decide)) (hc _ (by (repeat (rw [tc_rw_ne (by decide)])); exact h0)) (by omega) (by omega) wm_170 wm_nat wm_sta wm_15 (by decide) (by decide) dC_takeLines_33 ?_
  refine tv_iinc2 (v := 1) (pc := 36) dC_takeLines_36 (by decide) (by rfl) ?_
  refine tv_goto (pc := 39) 10 dC_takeLines_39 (by decide) ?_
  refine tv_iload_n (pc := 10) dC_takeLines_10 (by rfl) ?_
  refine tv_iconst (v := 4) (pc := 11) dC_takeLines_11 (by decide) ?_
  refine tv_icmp_ge (pc := 12) 42 dC_takeLines_12 (by decide) (fun h => absurd h (by decide)) (fun _ => ?_)
  refine tv_aload_n (pc := 15) dC_takeLines_15 (by rfl) ?_
  refine tv_getR (pc := 16) 0 tb_1 (by rfl) uwC_ (by decide) wm_35 (by rfl) dC_takeLines_16 ?_
  refine tv_iload_n (pc := 19) dC_takeLines_19 (by rfl) ?_
  refine tv_aald (pc := 20) (j := 1) tb_2 ⟨by decide, by decide, by decide⟩ dC_takeLines_20 ?_
  refine tv_iconst (v := 0) (pc := 21) dC_takeLines_21 (by decide) ?_
  refine tv_aload_n (pc := 22) dC_takeLines_22 (by rfl) ?_
  refine tv_getR (pc := 23) 0 tb_7 (by rfl) uwC_ (by decide) wm_35 (by rfl) dC_takeLines_23 ?_
  refine tv_iload_n (pc := 26) dC_takeLines_26 (by rfl) ?_
  refine tv_aald (pc := 27) (j := 1) tb_8 ⟨by decide, by decide, by decide⟩ dC_takeLines_27 ?_
  refine tv_iconst (v := 0) (pc := 28) dC_takeLines_28 (by decide) ?_
  refine tv_aload_n (pc := 29) dC_takeLines_29 (by rfl) ?_
  refine tv_getI (pc := 30) 1 tb_7 (by rfl) uwC_ (by decide) wm_36 (by rfl) dC_takeLines_30 ?_
  refine tv_copy (pc := 33) (code_1.2.2 1 (by decide)) (code_7.2.2 1 (by decide)) (hc _ (by (repeat (rw [tc_rw_ne (by decide)])); exact h0)) (by omega) (by omega) wm_170 wm_nat wm_sta wm_15 (by decide) (by decide) dC_takeLines_33 ?_
  refine tv_iinc2 (v := 1) (pc := 36) dC_takeLines_36 (by decide) (by rfl) ?_
  refine tv_goto (pc := 39) 10 dC_takeLines_39 (by decide) ?_
  refine tv_iload_n (pc := 10) dC_takeLines_10 (by rfl) ?_
  refine tv_iconst (v := 4) (pc := 11) dC_takeLines_11 (by decide) ?_
  refine tv_icmp_ge (pc := 12) 42 dC_takeLines_12 (by decide) (fun h => absurd h (by decide)) (fun _ => ?_)
  refine tv_aload_n (pc := 15) dC_takeLines_15 (by rfl) ?_
  refine tv_getR (pc := 16) 0 tb_1 (by rfl) uwC_ (by decide) wm_35 (by rfl) dC_takeLines_16 ?_
  refine tv_iload_n (pc := 19) dC_takeLines_19 (by rfl) ?_
  refine tv_aald (pc := 20) (j := 2) tb_2 ⟨by decide, by decide, by decide⟩ dC_takeLines_20 ?_
  refine tv_iconst (v := 0) (pc := 21) dC_takeLines_21 (by decide) ?_
  refine tv_aload_n (pc := 22) dC_takeLines_22 (by rfl) ?_
  refine tv_getR (pc := 23) 0 tb_7 (by rfl) uwC_ (by decide) wm_35 (by rfl) dC_takeLines_23 ?_
  refine tv_iload_n (pc := 26) dC_takeLines_26 (by rfl) ?_
  refine tv_aald (pc := 27) (j := 2) tb_8 ⟨by decide, by decide, by decide⟩ dC_takeLines_27 ?_
  refine tv_iconst (v := 0) (pc := 28) dC_takeLines_28 (by decide) ?_
  refine tv_aload_n (pc := 29) dC_takeLines_29 (by rfl) ?_
  refine tv_getI (pc := 30) 1 tb_7 (by rfl) uwC_ (by decide) wm_36 (by rfl) dC_takeLines_30 ?_
  refine tv_copy (pc := 33) (code_1.2.2 2 (by decide)) (code_7.2.2 2 (by decide)) (hc _ (by (repeat (rw [tc_rw_ne (by decide)])); exact h0)) (by omega) (by omega) wm_170 wm_nat wm_sta wm_15 (by decide) (by decide) dC_takeLines_33 ?_
  refine tv_iinc2 (v := 1) (pc := 36) dC_takeLines_36 (by decide) (by rfl) ?_
  refine tv_goto (pc := 39) 10 dC_takeLines_39 (by decide) ?_
  refine tv_iload_n (pc := 10) dC_takeLines_10 (by rfl) ?_
  refine tv_iconst (v := 4) (pc := 11) dC_takeLines_11 (by decide) ?_
  refine tv_icmp_ge (pc := 12) 42 dC_takeLines_12 (by decide) (fun h => absurd h (by decide)) (fun _ => ?_)
  refine tv_aload_n (pc := 15) dC_takeLines_15 (by rfl) ?_
  refine tv_getR (pc := 16) 0 tb_1 (by rfl) uwC_ (by decide) wm_35 (by rfl) dC_takeLines_16 ?_
  refine tv_iload_n (pc := 19) dC_takeLines_19 (by rfl) ?_
  refine tv_aald (pc := 20) (j := 3) tb_2 ⟨by decide, by decide, by decide⟩ dC_takeLines_20 ?_
  refine tv_iconst (v := 0) (pc := 21) dC_takeLines_21 (by decide) ?_
  refine tv_aload_n (pc := 22) dC_takeLines_22 (by rfl) ?_
  refine tv_getR (pc := 23) 0 tb_7 (by rfl) uwC_ (by decide) wm_35 (by rfl) dC_takeLines_23 ?_
  refine tv_iload_n (pc := 26) dC_takeLines_26 (by rfl) ?_
  refine tv_aald (pc := 27) (j := 3) tb_8 ⟨by decide, by decide, by decide⟩ dC_takeLines_27 ?_
  refine tv_iconst (v := 0) (pc := 28) dC_takeLines_28 (by decide) ?_
  refine tv_aload_n (pc := 29) dC_takeLines_29 (by rfl) ?_
  refine tv_getI (pc := 30) 1 tb_7 (by rfl) uwC_ (by decide) wm_36 (by rfl) dC_takeLines_30 ?_
  refine tv_copy (pc := 33) (code_1.2.2 3 (by decide)) (code_7.2.2 3 (by decide)) (hc _ (by (repeat (rw [tc_rw_ne (by decide)])); exact h0)) (by omega) (by omega) wm_170 wm_nat wm_sta wm_15 (by decide) (by decide) dC_takeLines_33 ?_
  refine tv_iinc2 (v := 1) (pc := 36) dC_takeLines_36 (by decide) (by rfl) ?_
  refine tv_goto (pc := 39) 10 dC_takeLines_39 (by decide) ?_
  refine tv_iload_n (pc := 10) dC_takeLines_10 (by rfl) ?_
  refine tv_iconst (v := 4) (pc := 11) dC_takeLines_11 (by decide) ?_
  refine tv_icmp_ge (pc := 12) 42 dC_takeLines_12 (by decide) (fun _ => ?_) (fun h => absurd (by decide) h)
  exact tv_vret (pc := 42) dC_takeLines_42 rfl (Nat.le_refl _) (Nat.le_refl _) ⟨rfl, by
    funext q
    unfold tc_take
    by_cases e7 : q = 7
    · subst e7
      rw [if_pos rfl]
      repeat (rw [tc_rw_ne (by decide)])
      rw [tc_up_eq, hs]
    · rw [if_neg e7]
      by_cases er : 9 ≤ q ∧ q < 13
      · rw [if_pos er]
        have : q = 9 ∨ q = 10 ∨ q = 11 ∨ q = 12 := by omega
        rcases this with rfl | rfl | rfl | rfl
        all_goals
          repeat (first | rw [tc_rw_eq] | rw [tc_rw_ne (by decide)] | rw [tc_up_ne (by decide)])
      · rw [if_neg er]
        rw [tc_rw_ne (by omega), tc_rw_ne (by omega), tc_rw_ne (by omega), tc_rw_ne (by omega), tc_up_ne e7]⟩
end
section
/-! loops that count up; columns and rows written by them -/
theorem tv_down {P : Nat → Prop} (N : Nat) (hN : P N) (hs : ∀ i, i < N → P (i + 1) → P i) : P 0 := by
  have key : ∀ d i, i + d = N → P i := by
    intro d
    induction d with
    | zero => intro i h; have e : i = N := by omega
              rw [e]; exact hN
    | succ d ih => intro i h; exact hs i (by omega) (ih (i + 1) (by omega))
  exact key N 0 (by omega)
/-- the first i of the rows from b on have f at the place pt -/
def tc_col (u : tc_S) (b pt : Nat) (f : Nat → Int32) (i : Nat) : tc_S := fun q => if b ≤ q ∧ q < b + i then upd (u q) pt (f (q - b)) else u q
theorem tc_col_0 {u : tc_S} {b pt : Nat} {f : Nat → Int32} : tc_col u b pt f 0 = u := by
  funext q; unfold tc_col; rw [if_neg (by omega)]
theorem tc_col_out {u : tc_S} {b pt : Nat} {f : Nat → Int32} {i q : Nat} (h : q < b ∨ b + i ≤ q) : tc_col u b pt f i q = u q := by
  unfold tc_col; rw [if_neg (by omega)]
theorem tc_col_in {u : tc_S} {b pt : Nat} {f : Nat → Int32} {i r : Nat} (h : r < i) : tc_col u b pt f i (b + r) = upd (u (b + r)) pt (f r) := by
  unfold tc_col; rw [if_pos (by omega), show b + r - b = r by omega]
theorem tc_col_s {u : tc_S} {b pt : Nat} {f : Nat → Int32} {i : Nat} : tc_up (tc_col u b pt f i) (b + i) pt (f i) = tc_col u b pt f (i + 1) := by
  funext q
  by_cases e : q = b + i
  · subst e
    rw [tc_up_eq, tc_col_out (by omega), tc_col_in (by omega)]
  · rw [tc_up_ne e]
    unfold tc_col
    by_cases h : b ≤ q ∧ q < b + i
    · rw [if_pos h, if_pos (by omega)]
    · rw [if_neg h, if_neg (by omega)]
theorem upd_id {f : Nat → Int32} {k : Nat} {x : Int32} (h : f k = x) : upd f k x = f := by
  funext j; unfold upd; split
  · next e => rw [e, h]
  · rfl
theorem tc_col_same {u : tc_S} {b pt : Nat} {f : Nat → Int32} {i : Nat} (h : u (b + i) pt = f i) : tc_col u b pt f (i + 1) = tc_col u b pt f i := by
  rw [← tc_col_s]
  funext q
  by_cases e : q = b + i
  · subst e
    rw [tc_up_eq, tc_col_out (by omega), upd_id h]
  · rw [tc_up_ne e]
/-- the first i places of the row be are f's -/
def tc_row (u : tc_S) (be : Nat) (f : Nat → Int32) (i : Nat) : tc_S := fun q => if q = be then (fun j => if j < i then f j else u be j) else u q
theorem tc_row_0 {u : tc_S} {be : Nat} {f : Nat → Int32} : tc_row u be f 0 = u := by
  funext q; unfold tc_row
  by_cases e : q = be
  · rw [if_pos e, e]; funext j; rw [if_neg (by omega)]
  · rw [if_neg e]
theorem tc_row_ne {u : tc_S} {be q : Nat} {f : Nat → Int32} {i : Nat} (h : q ≠ be) : tc_row u be f i q = u q := by
  unfold tc_row; rw [if_neg h]
theorem tc_row_in {u : tc_S} {be : Nat} {f : Nat → Int32} {i j : Nat} (h : j < i) : tc_row u be f i be j = f j := by
  unfold tc_row; rw [if_pos rfl, if_pos h]
theorem tc_row_out {u : tc_S} {be : Nat} {f : Nat → Int32} {i j : Nat} (h : i ≤ j) : tc_row u be f i be j = u be j := by
  unfold tc_row; rw [if_pos rfl, if_neg (by omega)]
theorem tc_row_s {u : tc_S} {be : Nat} {f : Nat → Int32} {i : Nat} : tc_up (tc_row u be f i) be i (f i) = tc_row u be f (i + 1) := by
  funext q
  by_cases e : q = be
  · subst e
    rw [tc_up_eq]
    funext j
    unfold upd
    by_cases hj : j = i
    · rw [if_pos hj, hj, tc_row_in (by omega)]
    · rw [if_neg hj]
      by_cases hl : j < i
      · rw [tc_row_in hl, tc_row_in (by omega)]
      · rw [tc_row_out (by omega), tc_row_out (by omega)]
  · rw [tc_up_ne e, tc_row_ne e, tc_row_ne e]
theorem tc_row_up {u : tc_S} {be a N : Nat} {f : Nat → Int32} {x : Int32} (h : a < N) : tc_up (tc_row u be f N) be a x = tc_row u be (fun j => if j = a then x else f j) N := by
  funext q
  by_cases e : q = be
  · subst e
    rw [tc_up_eq]
    funext j
    unfold upd
    by_cases hj : j = a
    · subst hj
      rw [if_pos rfl, tc_row_in h, if_pos rfl]
    · rw [if_neg hj]
      by_cases hl : j < N
      · rw [tc_row_in hl, tc_row_in hl, if_neg hj]
      · rw [tc_row_out (by omega), tc_row_out (by omega)]
  · rw [tc_up_ne e, tc_row_ne e, tc_row_ne e]
theorem tp_b_ex {p : Nat → Prop} {i : Nat} (h : p i) : tp_b (∃ r, r < i + 1 ∧ p r) = 1 := tp_b_t ⟨i, by omega, h⟩
theorem tp_b_ns {p : Nat → Prop} {i : Nat} (h : ¬ p i) : tp_b (∃ r, r < i + 1 ∧ p r) = tp_b (∃ r, r < i ∧ p r) := tp_b_iff ⟨fun ⟨r, hr, q⟩ => by
  by_cases e : r = i
  · subst e; exact absurd q h
  · exact ⟨r, by omega, q⟩, fun ⟨r, hr, q⟩ => ⟨r, by omega, q⟩⟩
theorem tp_b_0 {p : Nat → Prop} : tp_b (∃ r, r < 0 ∧ p r) = 0 := tp_b_f (fun ⟨_, h, _⟩ => absurd h (Nat.not_lt_zero _))
theorem nI_lt6 {i : Nat} (h : i < 6) : ¬ (6 : Int32) ≤ nI i := by rw [show (6 : Int32) = nI 6 from rfl]; exact nI_ge h (by omega)
theorem nI_lt9 {i : Nat} (h : i < 9) : ¬ (9 : Int32) ≤ nI i := by rw [show (9 : Int32) = nI 9 from rfl]; exact nI_ge h (by omega)
theorem nI_lt3 {i : Nat} (h : i < 3) : ¬ (3 : Int32) ≤ nI i := by rw [show (3 : Int32) = nI 3 from rfl]; exact nI_ge h (by omega)
theorem rows_16 : ∀ j, j < 6 → tcx.1[16 + j]? = some (0, 17, []) := by decide +kernel
theorem rows_26 : ∀ j, j < 9 → tcx.1[26 + j]? = some (0, 17, []) := by decide +kernel
theorem rows_36 : ∀ j, j < 9 → tcx.1[36 + j]? = some (0, 17, []) := by decide +kernel
end
section
set_option maxRecDepth 100000 in
set_option maxHeartbeats 4000000 in
theorem c_P_origin (l : Launch) (G : tc_G) (u : tc_S) {line : Int32} {i : Nat} (hi : tc_ix line 17 i) {x : Int32} {r : Nat} (hr : tc_ix x 6 r) : tc_C tcx G l yP_origin wP_origin r0P_origin 0 0 [.ref (tc_ad G 14), .int line, .int x] u (tc_Ki (u (16 + r) i) u) := by
  refine tw_ofV (own := "TracedCode$Copies") [some (.ref (tc_ad G 14)), some (.int line), some (.int x)] (by decide +kernel) rfl (Nat.le_of_ble_eq_true rfl) (by rfl) (fun p e s m args below meth c => ?_)
  refine tv_aload_n (pc := 0) dP_origin_0 (by rfl) ?_
  refine tv_getR (pc := 1) 0 tb_14 (by rfl) uwP_ (by decide) wm_59 (by rfl) dP_origin_1 ?_
  refine tv_iload_n (pc := 4) dP_origin_4 (by rfl) ?_
  refine tv_aald (pc := 5) tb_15 hr dP_origin_5 ?_
  refine tv_iload_n (pc := 6) dP_origin_6 (by rfl) ?_
  refine tv_iald (pc := 7) (rows_16 _ hr.2.2) hi dP_origin_7 ?_
  exact tv_iret (pc := 8) dP_origin_8 rfl (Nat.le_refl _) (Nat.le_refl _) ⟨rfl, rfl⟩
set_option maxRecDepth 100000 in
set_option maxHeartbeats 4000000 in
theorem c_P_put (l : Launch) (G : tc_G) (u : tc_S) {pt : Nat} (hp : tc_ix (nI pt) 17 pt) : tc_C tcx G l yP_put wP_put r0P_put 0 0 [.ref (tc_ad G 14), .int (nI pt)] u (tc_Kv (tc_col u 16 pt (fun r => u 22 r) 6)) := by
  refine tw_ofV (own := "TracedCode$Copies") [some (.ref (tc_ad G 14)), some (.int (nI pt)), none] (by decide +kernel) rfl (Nat.le_of_ble_eq_true rfl) (by rfl) (fun p e s m args below meth c => ?_)
  have loop : tc_V tcx G p l e r0P_put s m args below meth c bP_put 3 tw "TracedCode$Copies" none [] (MQ below (tc_Qc tcx G (tc_Kv (tc_col u 16 pt (fun r => u 22 r) 6)) s.heap.size) args s 0 0 (tc_A tcx G s.heap.size)) 0 0 (tc_col u 16 pt (fun r => u 22 r) 0) 2 [some (.ref (tc_ad G 14)), some (.int (nI pt)), some (.int (nI 0))] [] := by
    refine tv_down (P := fun i => tc_V tcx G p l e r0P_put s m args below meth c bP_put 3 tw "TracedCode$Copies" none [] (MQ below (tc_Qc tcx G (tc_Kv (tc_col u 16 pt (fun r => u 22 r) 6)) s.heap.size) args s 0 0 (tc_A tcx G s.heap.size)) 0 0 (tc_col u 16 pt (fun r => u 22 r) i) 2 [some (.ref (tc_ad G 14)), some (.int (nI pt)), some (.int (nI i))] []) 6 ?_ ?_
    · skip
      refine tv_iload_n (pc := 2) dP_put_2 (by rfl) ?_
      refine tv_bipush (v := 6) (pc := 3) dP_put_3 (by decide) ?_
      refine tv_icmp_ge (pc := 5) 28 dP_put_5 (by decide) (fun _ => ?_) (fun h => absurd (by decide) h)
      exact tv_vret (pc := 28) dP_put_28 rfl (Nat.le_refl _) (Nat.le_refl _) ⟨rfl, rfl⟩
    · intro i hiN ih
      have hi6 : tc_ix (nI i) 6 i := tc_ixN hiN (by decide)
      refine tv_iload_n (pc := 2) dP_put_2 (by rfl) ?_
      refine tv_bipush (v := 6) (pc := 3) dP_put_3 (by decide) ?_
      refine tv_icmp_ge (pc := 5) 28 dP_put_5 (by decide) (fun h => absurd h (nI_lt6 hiN)) (fun _ => ?_)
      refine tv_aload_n (pc := 8) dP_put_8 (by rfl) ?_
      refine tv_getR (pc := 9) 0 tb_14 (by rfl) uwP_ (by decide) wm_59 (by rfl) dP_put_9 ?_
      refine tv_iload_n (pc := 12) dP_put_12 (by rfl) ?_
      refine tv_aald (pc := 13) tb_15 hi6 dP_put_13 ?_
      refine tv_iload_n (pc := 14) dP_put_14 (by rfl) ?_
      refine tv_aload_n (pc := 15) dP_put_15 (by rfl) ?_
      refine tv_getR (pc := 16) 1 tb_14 (by rfl) uwP_ (by decide) wm_60 (by rfl) dP_put_16 ?_
      refine tv_iload_n (pc := 19) dP_put_19 (by rfl) ?_
      refine tv_iald (pc := 20) tb_22 hi6 dP_put_20 ?_
      refine tv_iast (pc := 21) (rows_16 _ hi6.2.2) hp dP_put_21 ?_
      refine tv_iinc2 (v := 1) (pc := 22) dP_put_22 (by decide) (by rfl) ?_
      refine tv_goto (pc := 25) 2 dP_put_25 (by decide) ?_
      rw [tc_col_out (q := 22) (by omega), tc_col_s (i := i) (f := fun r => u 22 r)]
      rw [← nI_1] at ih
      exact ih
  rw [tc_col_0] at loop
  refine tv_iconst (v := 0) (pc := 0) dP_put_0 (by decide) ?_
  refine tv_istore2 (pc := 1) dP_put_1 (by rfl) ?_
  exact loop
/-- what the narrowing of a point takes away -/
def tc_pn (u : tc_S) (pt r : Nat) : Prop := ¬ u (16 + r) pt = -1 ∧ ¬ u (16 + r) pt = u 22 r
noncomputable def tc_pf (u : tc_S) (pt r : Nat) : Int32 := @ite _ (tc_pn u pt r) (Classical.propDecidable _) (-1) (u (16 + r) pt)
set_option maxRecDepth 100000 in
set_option maxHeartbeats 4000000 in
theorem c_P_narrow (l : Launch) (G : tc_G) (u : tc_S) {pt : Nat} (hp : tc_ix (nI pt) 17 pt) : tc_C tcx G l yP_narrow wP_narrow r0P_narrow 0 0 [.ref (tc_ad G 14), .int (nI pt)] u (tc_Ki (tp_b (∃ r, r < 6 ∧ tc_pn u pt r)) (tc_col u 16 pt (tc_pf u pt) 6)) := by
  refine tw_ofV (own := "TracedCode$Copies") [some (.ref (tc_ad G 14)), some (.int (nI pt)), none, none] (by decide +kernel) rfl (Nat.le_of_ble_eq_true rfl) (by rfl) (fun p e s m args below meth c => ?_)
  have loop : tc_V tcx G p l e r0P_narrow s m args below meth c bP_narrow 4 tw "TracedCode$Copies" (some .boolean) [] (MQ below (tc_Qc tcx G (tc_Ki (tp_b (∃ r, r < 6 ∧ tc_pn u pt r)) (tc_col u 16 pt (tc_pf u pt) 6)) s.heap.size) args s 0 0 (tc_A tcx G s.heap.size)) 0 0 (tc_col u 16 pt (tc_pf u pt) 0) 4 [some (.ref (tc_ad G 14)), some (.int (nI pt)), some (.int (tp_b (∃ r, r < 0 ∧ tc_pn u pt r))), some (.int (nI 0))] [] := by
    refine tv_down (P := fun i => tc_V tcx G p l e r0P_narrow s m args below meth c bP_narrow 4 tw "TracedCode$Copies" (some .boolean) [] (MQ below (tc_Qc tcx G (tc_Ki (tp_b (∃ r, r < 6 ∧ tc_pn u pt r)) (tc_col u 16 pt (tc_pf u pt) 6)) s.heap.size) args s 0 0 (tc_A tcx G s.heap.size)) 0 0 (tc_col u 16 pt (tc_pf u pt) i) 4 [some (.ref (tc_ad G 14)), some (.int (nI pt)), some (.int (tp_b (∃ r, r < i ∧ tc_pn u pt r))), some (.int (nI i))] []) 6 ?_ ?_
    · skip
      refine tv_iload_n (pc := 4) dP_narrow_4 (by rfl) ?_
      refine tv_bipush (v := 6) (pc := 5) dP_narrow_5 (by decide) ?_
      refine tv_icmp_ge (pc := 7) 56 dP_narrow_7 (by decide) (fun _ => ?_) (fun h => absurd (by decide) h)
      refine tv_iload_n (pc := 56) dP_narrow_56 (by rfl) ?_
      exact tv_zret (pc := 57) dP_narrow_57 rfl (Nat.le_refl _) (Nat.le_refl _) tp_b_z ⟨rfl, rfl⟩
    · intro i hiN ih
      have hi6 : tc_ix (nI i) 6 i := tc_ixN hiN (by decide)
      refine tv_iload_n (pc := 4) dP_narrow_4 (by rfl) ?_
      refine tv_bipush (v := 6) (pc := 5) dP_narrow_5 (by decide) ?_
      refine tv_icmp_ge (pc := 7) 56 dP_narrow_7 (by decide) (fun h => absurd h (nI_lt6 hiN)) (fun _ => ?_)
      refine tv_aload_n (pc := 10) dP_narrow_10 (by rfl) ?_
      refine tv_getR (pc := 11) 0 tb_14 (by rfl) uwP_ (by decide) wm_59 (by rfl) dP_narrow_11 ?_
      refine tv_iload_n (pc := 14) dP_narrow_14 (by rfl) ?_
      refine tv_aald (pc := 15) tb_15 hi6 dP_narrow_15 ?_
      refine tv_iload_n (pc := 16) dP_narrow_16 (by rfl) ?_
      refine tv_iald (pc := 17) (rows_16 _ hi6.2.2) hp dP_narrow_17 ?_
      refine tv_iconst (v := (-1)) (pc := 18) dP_narrow_18 (by decide) ?_
      refine tv_icmp_eq (pc := 19) 50 dP_narrow_19 (by decide) (fun h19 => ?_) (fun h19 => ?_)
      · skip
        refine tv_iinc3 (v := 1) (pc := 50) dP_narrow_50 (by decide) (by rfl) ?_
        refine tv_goto (pc := 53) 4 dP_narrow_53 (by decide) ?_
        first
        | (have hc : tc_pn u pt i := by
             refine ⟨?_, ?_⟩
             · have q : ¬ tc_col u 16 pt (tc_pf u pt) i (16 + i) pt = -1 := by assumption
               rw [tc_col_out (by omega)] at q; exact q
             · have q : ¬ tc_col u 16 pt (tc_pf u pt) i (16 + i) pt = tc_col u 16 pt (tc_pf u pt) i 22 i := by assumption
               rw [tc_col_out (by omega), tc_col_out (by omega)] at q; exact q
           rw [tp_b_ex hc, ← nI_1, ← tc_col_s (i := i), show tc_pf u pt i = -1 from by unfold tc_pf; rw [if_pos hc]] at ih
           exact ih)
        | (have hc : ¬ tc_pn u pt i := by
             rintro ⟨q1, q2⟩
             first
             | (have q : tc_col u 16 pt (tc_pf u pt) i (16 + i) pt = -1 := by assumption
                rw [tc_col_out (by omega)] at q; exact q1 q)
             | (have q : tc_col u 16 pt (tc_pf u pt) i (16 + i) pt = tc_col u 16 pt (tc_pf u pt) i 22 i := by assumption
                rw [tc_col_out (by omega), tc_col_out (by omega)] at q; exact q2 q)
           rw [tp_b_ns hc, ← nI_1, tc_col_same (i := i) (show u (16 + i) pt = tc_pf u pt i from by unfold tc_pf; rw [if_neg hc])] at ih
           exact ih)
      · skip
        refine tv_aload_n (pc := 22) dP_narrow_22 (by rfl) ?_
        refine tv_getR (pc := 23) 0 tb_14 (by rfl) uwP_ (by decide) wm_59 (by rfl) dP_narrow_23 ?_
        refine tv_iload_n (pc := 26) dP_narrow_26 (by rfl) ?_
        refine tv_aald (pc := 27) tb_15 hi6 dP_narrow_27 ?_
        refine tv_iload_n (pc := 28) dP_narrow_28 (by rfl) ?_
        refine tv_iald (pc := 29) (rows_16 _ hi6.2.2) hp dP_narrow_29 ?_
        refine tv_aload_n (pc := 30) dP_narrow_30 (by rfl) ?_
        refine tv_getR (pc := 31) 1 tb_14 (by rfl) uwP_ (by decide) wm_60 (by rfl) dP_narrow_31 ?_
        refine tv_iload_n (pc := 34) dP_narrow_34 (by rfl) ?_
        refine tv_iald (pc := 35) tb_22 hi6 dP_narrow_35 ?_
        refine tv_icmp_eq (pc := 36) 50 dP_narrow_36 (by decide) (fun h36 => ?_) (fun h36 => ?_)
        · skip
          refine tv_iinc3 (v := 1) (pc := 50) dP_narrow_50 (by decide) (by rfl) ?_
          refine tv_goto (pc := 53) 4 dP_narrow_53 (by decide) ?_
          first
          | (have hc : tc_pn u pt i := by
               refine ⟨?_, ?_⟩
               · have q : ¬ tc_col u 16 pt (tc_pf u pt) i (16 + i) pt = -1 := by assumption
                 rw [tc_col_out (by omega)] at q; exact q
               · have q : ¬ tc_col u 16 pt (tc_pf u pt) i (16 + i) pt = tc_col u 16 pt (tc_pf u pt) i 22 i := by assumption
                 rw [tc_col_out (by omega), tc_col_out (by omega)] at q; exact q
             rw [tp_b_ex hc, ← nI_1, ← tc_col_s (i := i), show tc_pf u pt i = -1 from by unfold tc_pf; rw [if_pos hc]] at ih
             exact ih)
          | (have hc : ¬ tc_pn u pt i := by
               rintro ⟨q1, q2⟩
               first
               | (have q : tc_col u 16 pt (tc_pf u pt) i (16 + i) pt = -1 := by assumption
                  rw [tc_col_out (by omega)] at q; exact q1 q)
               | (have q : tc_col u 16 pt (tc_pf u pt) i (16 + i) pt = tc_col u 16 pt (tc_pf u pt) i 22 i := by assumption
                  rw [tc_col_out (by omega), tc_col_out (by omega)] at q; exact q2 q)
             rw [tp_b_ns hc, ← nI_1, tc_col_same (i := i) (show u (16 + i) pt = tc_pf u pt i from by unfold tc_pf; rw [if_neg hc])] at ih
             exact ih)
        · skip
          refine tv_aload_n (pc := 39) dP_narrow_39 (by rfl) ?_
          refine tv_getR (pc := 40) 0 tb_14 (by rfl) uwP_ (by decide) wm_59 (by rfl) dP_narrow_40 ?_
          refine tv_iload_n (pc := 43) dP_narrow_43 (by rfl) ?_
          refine tv_aald (pc := 44) tb_15 hi6 dP_narrow_44 ?_
          refine tv_iload_n (pc := 45) dP_narrow_45 (by rfl) ?_
          refine tv_iconst (v := (-1)) (pc := 46) dP_narrow_46 (by decide) ?_
          refine tv_iast (pc := 47) (rows_16 _ hi6.2.2) hp dP_narrow_47 ?_
          refine tv_iconst (v := 1) (pc := 48) dP_narrow_48 (by decide) ?_
          refine tv_istore2 (pc := 49) dP_narrow_49 (by rfl) ?_
          refine tv_iinc3 (v := 1) (pc := 50) dP_narrow_50 (by decide) (by rfl) ?_
          refine tv_goto (pc := 53) 4 dP_narrow_53 (by decide) ?_
          first
          | (have hc : tc_pn u pt i := by
               refine ⟨?_, ?_⟩
               · have q : ¬ tc_col u 16 pt (tc_pf u pt) i (16 + i) pt = -1 := by assumption
                 rw [tc_col_out (by omega)] at q; exact q
               · have q : ¬ tc_col u 16 pt (tc_pf u pt) i (16 + i) pt = tc_col u 16 pt (tc_pf u pt) i 22 i := by assumption
                 rw [tc_col_out (by omega), tc_col_out (by omega)] at q; exact q
             rw [tp_b_ex hc, ← nI_1, ← tc_col_s (i := i), show tc_pf u pt i = -1 from by unfold tc_pf; rw [if_pos hc]] at ih
             exact ih)
          | (have hc : ¬ tc_pn u pt i := by
               rintro ⟨q1, q2⟩
               first
               | (have q : tc_col u 16 pt (tc_pf u pt) i (16 + i) pt = -1 := by assumption
                  rw [tc_col_out (by omega)] at q; exact q1 q)
               | (have q : tc_col u 16 pt (tc_pf u pt) i (16 + i) pt = tc_col u 16 pt (tc_pf u pt) i 22 i := by assumption
                  rw [tc_col_out (by omega), tc_col_out (by omega)] at q; exact q2 q)
             rw [tp_b_ns hc, ← nI_1, tc_col_same (i := i) (show u (16 + i) pt = tc_pf u pt i from by unfold tc_pf; rw [if_neg hc])] at ih
             exact ih)
  rw [tc_col_0, tp_b_0] at loop
  refine tv_iconst (v := 0) (pc := 0) dP_narrow_0 (by decide) ?_
  refine tv_istore2 (pc := 1) dP_narrow_1 (by rfl) ?_
  refine tv_iconst (v := 0) (pc := 2) dP_narrow_2 (by decide) ?_
  refine tv_istore3 (pc := 3) dP_narrow_3 (by rfl) ?_
  exact loop
/-- what holds of r behind a line, by what held before it -/
def tp_fb (P : tp_P) (i : Nat) (o : Nat → Int32) (r : Nat) : Int32 := if P 0 i = 1 ∧ ¬ P 2 i = P 1 i ∧ nI r = P 1 i then P 2 i else if nI r = tp_wI P i ∨ o r = tp_wI P i then -1 else o r
def tp_f0 (P : tp_P) (i : Nat) (o : Nat → Int32) (r : Nat) : Int32 := if nI r = tp_wI P i ∨ o r = tp_wI P i then -1 else o r
theorem tp_fb_n {P : tp_P} {i r : Nat} {o : Nat → Int32} (h : ¬ (P 0 i = 1 ∧ ¬ P 2 i = P 1 i ∧ nI r = P 1 i)) : tp_fb P i o r = tp_f0 P i o r := if_neg h
theorem tp_fb_y {P : tp_P} {i r : Nat} {o : Nat → Int32} (h : P 0 i = 1 ∧ ¬ P 2 i = P 1 i ∧ nI r = P 1 i) : tp_fb P i o r = P 2 i := if_pos h
theorem tc_row_congr {u : tc_S} {be N : Nat} {f g : Nat → Int32} (h : ∀ j, j < N → f j = g j) : tc_row u be f N = tc_row u be g N := by
  funext q
  unfold tc_row
  by_cases e : q = be
  · rw [if_pos e, if_pos e]
    funext j
    by_cases hj : j < N
    · rw [if_pos hj, if_pos hj, h j hj]
    · rw [if_neg hj, if_neg hj]
  · rw [if_neg e, if_neg e]
set_option maxRecDepth 100000 in
set_option maxHeartbeats 4000000 in
theorem c_P_follow (l : Launch) (G : tc_G) (u : tc_S) {k g b k2 : Nat} (hC : tcx_code k g b) (hb : b + 4 ≤ 13) {i : Nat} (hi : i < 16) (hl : tp_line (pv u b) i) : tc_C tcx G l yP_follow wP_follow r0P_follow 0 0 [.ref (tc_ad G 14), .ref (tc_ad G k2), .ref (tc_ad G k), .int (nI i)] u (tc_Kv (tc_row u 22 (tp_fb (pv u b) i (fun r => u (16 + r) i)) 6)) := by
  refine tw_ofV (own := "TracedCode$Copies") [some (.ref (tc_ad G 14)), some (.ref (tc_ad G k2)), some (.ref (tc_ad G k)), some (.int (nI i)), none, none, none] (by decide +kernel) rfl (Nat.le_of_ble_eq_true rfl) (by rfl) (fun p e s m args below meth c => ?_)
  have hi16 : tc_ix (nI i) 16 i := tc_ixN hi (by decide)
  have hi17 : tc_ix (nI i) 17 i := tc_ixN (by omega) (by decide)
  have fin : ∀ z : Option Value, tc_V tcx G p l e r0P_follow s m args below meth c bP_follow 7 tw "TracedCode$Copies" none [] (MQ below (tc_Qc tcx G (tc_Kv (tc_row u 22 (tp_fb (pv u b) i (fun r => u (16 + r) i)) 6)) s.heap.size) args s 0 0 (tc_A tcx G s.heap.size)) 0 0 (tc_row u 22 (tp_f0 (pv u b) i (fun r => u (16 + r) i)) 6) 10 [some (.ref (tc_ad G 14)), some (.ref (tc_ad G k2)), some (.ref (tc_ad G k)), some (.int (nI i)), some (.int (tp_wI (pv u b) i)), some (.int (nI 6)), z] [] := by
    intro z
    refine tv_iload (pc := 10) dP_follow_10 (by rfl) ?_
    refine tv_bipush (v := 6) (pc := 12) dP_follow_12 (by decide) ?_
    refine tv_icmp_ge (pc := 14) 61 dP_follow_14 (by decide) (fun _ => ?_) (fun h => absurd (by decide) h)
    refine tv_aload_n (pc := 61) dP_follow_61 (by rfl) ?_
    refine tv_iload_n (pc := 62) dP_follow_62 (by rfl) ?_
    refine tv_callVi (pc := 63) [_] hC.1 (by rfl) (c_C_kind l G _ hC hi16) (kVC_kind wm_225 ⟨by decide, by decide⟩) (by rfl) (Nat.le_of_ble_eq_true rfl) dP_follow_63 ⟨by decide, by decide⟩ ?_
    refine tv_iconst (v := 1) (pc := 66) dP_follow_66 (by decide) ?_
    refine tv_icmp_ne (pc := 67) 94 dP_follow_67 (by decide) (fun h67 => ?_) (fun h67 => ?_)
    · skip
      first
      | (rw [tc_row_ne (q := b + 2) (by omega), tc_row_up ha]
         exact tv_vret (pc := 94) dP_follow_94 rfl (Nat.le_refl _) (Nat.le_refl _) ⟨rfl, by
           refine tc_row_congr (fun r hr6 => ?_)
           by_cases e : r = a
           · rw [if_pos e, tp_fb_y ⟨h1, h2, by rw [e, ea]⟩]; rfl
           · rw [if_neg e]
             exact (tp_fb_n (fun q => e ((nI_eq (by omega) (by omega)).mp (q.2.2.trans ea)))).symm⟩)
      | exact tv_vret (pc := 94) dP_follow_94 rfl (Nat.le_refl _) (Nat.le_refl _) (by exact ⟨rfl, by
              refine tc_row_congr (fun r _ => (tp_fb_n ?_).symm)
              rintro ⟨q1, q2, q3⟩
              first
              | exact (by assumption : ¬ tc_row u 22 (tp_f0 (pv u b) i (fun r => u (16 + r) i)) 6 (b + 0) i = 1) (by rw [tc_row_ne (by omega)]; exact q1)
              | exact q2 (by have h : tc_row u 22 (tp_f0 (pv u b) i (fun r => u (16 + r) i)) 6 (b + 2) i = tp_wI (pv u b) i := by assumption
                             rw [tc_row_ne (by omega)] at h
                             rw [show tp_wI (pv u b) i = pv u b 1 i from by unfold tp_wI; rw [if_pos (Or.inr (Or.inl q1))]] at h
                             exact h)⟩)
    · skip
      refine tv_aload_n (pc := 70) dP_follow_70 (by rfl) ?_
      refine tv_iload_n (pc := 71) dP_follow_71 (by rfl) ?_
      refine tv_iconst (v := 2) (pc := 72) dP_follow_72 (by decide) ?_
      refine tv_callVi (pc := 73) [_, _] hC.1 (by rfl) (c_C_number l G _ hC hi16 (j := 2) ⟨by decide, by decide, by decide⟩) (kVC_number wm_226 ⟨by decide, by decide⟩) (by rfl) (Nat.le_of_ble_eq_true rfl) dP_follow_73 ⟨by decide, by decide⟩ ?_
      refine tv_iload (pc := 76) dP_follow_76 (by rfl) ?_
      refine tv_icmp_eq (pc := 78) 94 dP_follow_78 (by decide) (fun h78 => ?_) (fun h78 => ?_)
      · skip
        first
        | (rw [tc_row_ne (q := b + 2) (by omega), tc_row_up ha]
           exact tv_vret (pc := 94) dP_follow_94 rfl (Nat.le_refl _) (Nat.le_refl _) ⟨rfl, by
             refine tc_row_congr (fun r hr6 => ?_)
             by_cases e : r = a
             · rw [if_pos e, tp_fb_y ⟨h1, h2, by rw [e, ea]⟩]; rfl
             · rw [if_neg e]
               exact (tp_fb_n (fun q => e ((nI_eq (by omega) (by omega)).mp (q.2.2.trans ea)))).symm⟩)
        | exact tv_vret (pc := 94) dP_follow_94 rfl (Nat.le_refl _) (Nat.le_refl _) (by exact ⟨rfl, by
                refine tc_row_congr (fun r _ => (tp_fb_n ?_).symm)
                rintro ⟨q1, q2, q3⟩
                first
                | exact (by assumption : ¬ tc_row u 22 (tp_f0 (pv u b) i (fun r => u (16 + r) i)) 6 (b + 0) i = 1) (by rw [tc_row_ne (by omega)]; exact q1)
                | exact q2 (by have h : tc_row u 22 (tp_f0 (pv u b) i (fun r => u (16 + r) i)) 6 (b + 2) i = tp_wI (pv u b) i := by assumption
                               rw [tc_row_ne (by omega)] at h
                               rw [show tp_wI (pv u b) i = pv u b 1 i from by unfold tp_wI; rw [if_pos (Or.inr (Or.inl q1))]] at h
                               exact h)⟩)
      · skip
        have h1 : pv u b 0 i = 1 := by
          have h : tc_row u 22 (tp_f0 (pv u b) i (fun r => u (16 + r) i)) 6 (b + 0) i = 1 := by assumption
          rw [tc_row_ne (by omega)] at h; exact h
        obtain ⟨a, ha, ea⟩ := hl.2.1 (by rw [h1]; decide)
        have ew : tp_wI (pv u b) i = nI a := by unfold tp_wI; rw [if_pos (Or.inr (Or.inl h1)), ea]
        have h2 : ¬ pv u b 2 i = pv u b 1 i := by
          have h : ¬ tc_row u 22 (tp_f0 (pv u b) i (fun r => u (16 + r) i)) 6 (b + 2) i = tp_wI (pv u b) i := by assumption
          rw [tc_row_ne (by omega), ew, ← ea] at h; exact h
        refine tv_aload_n (pc := 81) dP_follow_81 (by rfl) ?_
        refine tv_getR (pc := 82) 1 tb_14 (by rfl) uwP_ (by decide) wm_60 (by rfl) dP_follow_82 ?_
        refine tv_iload (pc := 85) dP_follow_85 (by rfl) ?_
        refine tv_aload_n (pc := 87) dP_follow_87 (by rfl) ?_
        refine tv_iload_n (pc := 88) dP_follow_88 (by rfl) ?_
        refine tv_iconst (v := 2) (pc := 89) dP_follow_89 (by decide) ?_
        refine tv_callVi (pc := 90) [_, _] hC.1 (by rfl) (c_C_number l G _ hC hi16 (j := 2) ⟨by decide, by decide, by decide⟩) (kVC_number wm_226 ⟨by decide, by decide⟩) (by rfl) (Nat.le_of_ble_eq_true rfl) dP_follow_90 ⟨by decide, by decide⟩ ?_
        refine tv_iast (pc := 93) (j := a) tb_22 (by rw [ew]; exact tc_ixN ha (by decide)) dP_follow_93 ?_
        first
        | (rw [tc_row_ne (q := b + 2) (by omega), tc_row_up ha]
           exact tv_vret (pc := 94) dP_follow_94 rfl (Nat.le_refl _) (Nat.le_refl _) ⟨rfl, by
             refine tc_row_congr (fun r hr6 => ?_)
             by_cases e : r = a
             · rw [if_pos e, tp_fb_y ⟨h1, h2, by rw [e, ea]⟩]; rfl
             · rw [if_neg e]
               exact (tp_fb_n (fun q => e ((nI_eq (by omega) (by omega)).mp (q.2.2.trans ea)))).symm⟩)
        | exact tv_vret (pc := 94) dP_follow_94 rfl (Nat.le_refl _) (Nat.le_refl _) (by exact ⟨rfl, by
                refine tc_row_congr (fun r _ => (tp_fb_n ?_).symm)
                rintro ⟨q1, q2, q3⟩
                first
                | exact (by assumption : ¬ tc_row u 22 (tp_f0 (pv u b) i (fun r => u (16 + r) i)) 6 (b + 0) i = 1) (by rw [tc_row_ne (by omega)]; exact q1)
                | exact q2 (by have h : tc_row u 22 (tp_f0 (pv u b) i (fun r => u (16 + r) i)) 6 (b + 2) i = tp_wI (pv u b) i := by assumption
                               rw [tc_row_ne (by omega)] at h
                               rw [show tp_wI (pv u b) i = pv u b 1 i from by unfold tp_wI; rw [if_pos (Or.inr (Or.inl q1))]] at h
                               exact h)⟩)
  have loop : ∀ z : Option Value, tc_V tcx G p l e r0P_follow s m args below meth c bP_follow 7 tw "TracedCode$Copies" none [] (MQ below (tc_Qc tcx G (tc_Kv (tc_row u 22 (tp_fb (pv u b) i (fun r => u (16 + r) i)) 6)) s.heap.size) args s 0 0 (tc_A tcx G s.heap.size)) 0 0 (tc_row u 22 (tp_f0 (pv u b) i (fun r => u (16 + r) i)) 0) 10 [some (.ref (tc_ad G 14)), some (.ref (tc_ad G k2)), some (.ref (tc_ad G k)), some (.int (nI i)), some (.int (tp_wI (pv u b) i)), some (.int (nI 0)), z] [] := by
    refine tv_down (P := fun r => ∀ z : Option Value, tc_V tcx G p l e r0P_follow s m args below meth c bP_follow 7 tw "TracedCode$Copies" none [] (MQ below (tc_Qc tcx G (tc_Kv (tc_row u 22 (tp_fb (pv u b) i (fun r => u (16 + r) i)) 6)) s.heap.size) args s 0 0 (tc_A tcx G s.heap.size)) 0 0 (tc_row u 22 (tp_f0 (pv u b) i (fun r => u (16 + r) i)) r) 10 [some (.ref (tc_ad G 14)), some (.ref (tc_ad G k2)), some (.ref (tc_ad G k)), some (.int (nI i)), some (.int (tp_wI (pv u b) i)), some (.int (nI r)), z] []) 6 fin ?_
    intro r hr ih z
    have hr6 : tc_ix (nI r) 6 r := tc_ixN hr (by decide)
    refine tv_iload (pc := 10) dP_follow_10 (by rfl) ?_
    refine tv_bipush (v := 6) (pc := 12) dP_follow_12 (by decide) ?_
    refine tv_icmp_ge (pc := 14) 61 dP_follow_14 (by decide) (fun h => absurd h (nI_lt6 hr)) (fun _ => ?_)
    refine tv_aload_n (pc := 17) dP_follow_17 (by rfl) ?_
    refine tv_getR (pc := 18) 0 tb_14 (by rfl) uwP_ (by decide) wm_59 (by rfl) dP_follow_18 ?_
    refine tv_iload (pc := 21) dP_follow_21 (by rfl) ?_
    refine tv_aald (pc := 23) tb_15 hr6 dP_follow_23 ?_
    refine tv_iload_n (pc := 24) dP_follow_24 (by rfl) ?_
    refine tv_iald (pc := 25) (rows_16 _ hr6.2.2) hi17 dP_follow_25 ?_
    refine tv_istore6 (pc := 26) dP_follow_26 (by rfl) ?_
    refine tv_aload_n (pc := 28) dP_follow_28 (by rfl) ?_
    refine tv_getR (pc := 29) 1 tb_14 (by rfl) uwP_ (by decide) wm_60 (by rfl) dP_follow_29 ?_
    refine tv_iload (pc := 32) dP_follow_32 (by rfl) ?_
    refine tv_iload (pc := 34) dP_follow_34 (by rfl) ?_
    refine tv_iload (pc := 36) dP_follow_36 (by rfl) ?_
    refine tv_icmp_eq (pc := 38) 48 dP_follow_38 (by decide) (fun h38 => ?_) (fun h38 => ?_)
    · skip
      refine tv_iconst (v := (-1)) (pc := 48) dP_follow_48 (by decide) ?_
      refine tv_goto (pc := 49) 54 dP_follow_49 (by decide) ?_
      refine tv_iast (pc := 54) tb_22 hr6 dP_follow_54 ?_
      refine tv_iinc5 (v := 1) (pc := 55) dP_follow_55 (by decide) (by rfl) ?_
      refine tv_goto (pc := 58) 10 dP_follow_58 (by decide) ?_
      rw [tc_row_ne (q := 16 + r) (by omega)] at *
      rw [← tc_row_s (f := tp_f0 (pv u b) i (fun r => u (16 + r) i)), ← nI_1] at ih
      first
      | (rw [show tp_f0 (pv u b) i (fun r => u (16 + r) i) r = -1 from by unfold tp_f0; rw [if_pos (by first | exact Or.inl (by assumption) | exact Or.inr (by assumption))]] at ih; exact ih _)
      | (rw [show tp_f0 (pv u b) i (fun r => u (16 + r) i) r = u (16 + r) i from by unfold tp_f0; rw [if_neg (by rintro (q | q) <;> contradiction)]] at ih; exact ih _)
    · skip
      refine tv_iload (pc := 41) dP_follow_41 (by rfl) ?_
      refine tv_iload (pc := 43) dP_follow_43 (by rfl) ?_
      refine tv_icmp_ne (pc := 45) 52 dP_follow_45 (by decide) (fun h45 => ?_) (fun h45 => ?_)
      · skip
        refine tv_iload (pc := 52) dP_follow_52 (by rfl) ?_
        refine tv_iast (pc := 54) tb_22 hr6 dP_follow_54 ?_
        refine tv_iinc5 (v := 1) (pc := 55) dP_follow_55 (by decide) (by rfl) ?_
        refine tv_goto (pc := 58) 10 dP_follow_58 (by decide) ?_
        rw [tc_row_ne (q := 16 + r) (by omega)] at *
        rw [← tc_row_s (f := tp_f0 (pv u b) i (fun r => u (16 + r) i)), ← nI_1] at ih
        first
        | (rw [show tp_f0 (pv u b) i (fun r => u (16 + r) i) r = -1 from by unfold tp_f0; rw [if_pos (by first | exact Or.inl (by assumption) | exact Or.inr (by assumption))]] at ih; exact ih _)
        | (rw [show tp_f0 (pv u b) i (fun r => u (16 + r) i) r = u (16 + r) i from by unfold tp_f0; rw [if_neg (by rintro (q | q) <;> contradiction)]] at ih; exact ih _)
      · skip
        refine tv_iconst (v := (-1)) (pc := 48) dP_follow_48 (by decide) ?_
        refine tv_goto (pc := 49) 54 dP_follow_49 (by decide) ?_
        refine tv_iast (pc := 54) tb_22 hr6 dP_follow_54 ?_
        refine tv_iinc5 (v := 1) (pc := 55) dP_follow_55 (by decide) (by rfl) ?_
        refine tv_goto (pc := 58) 10 dP_follow_58 (by decide) ?_
        rw [tc_row_ne (q := 16 + r) (by omega)] at *
        rw [← tc_row_s (f := tp_f0 (pv u b) i (fun r => u (16 + r) i)), ← nI_1] at ih
        first
        | (rw [show tp_f0 (pv u b) i (fun r => u (16 + r) i) r = -1 from by unfold tp_f0; rw [if_pos (by first | exact Or.inl (by assumption) | exact Or.inr (by assumption))]] at ih; exact ih _)
        | (rw [show tp_f0 (pv u b) i (fun r => u (16 + r) i) r = u (16 + r) i from by unfold tp_f0; rw [if_neg (by rintro (q | q) <;> contradiction)]] at ih; exact ih _)
  rw [tc_row_0] at loop
  refine tv_aload_n (pc := 0) dP_follow_0 (by rfl) ?_
  refine tv_iload_n (pc := 1) dP_follow_1 (by rfl) ?_
  refine tv_callVi (pc := 2) [_] hC.1 (by rfl) (c_C_written l G u hC hi16) (kVC_written wm_224 ⟨by decide, by decide⟩) (by rfl) (Nat.le_of_ble_eq_true rfl) dP_follow_2 ⟨by decide, by decide⟩ ?_
  refine tv_istore4 (pc := 5) dP_follow_5 (by rfl) ?_
  refine tv_iconst (v := 0) (pc := 7) dP_follow_7 (by decide) ?_
  refine tv_istore5 (pc := 8) dP_follow_8 (by rfl) ?_
  exact loop none
end
section
theorem tw_kU {R rm : Room} {s : State} {args : Array Value} {own C owner : String} {idx mc ms nL : Nat} {x y : MethodName} {b : ByteArray} {ret : Option FieldType} (n : Nat) (h1 : Cond.sameMethod x.cls owner x.name x.desc ∈ tw) (h2 : Cond.selects C x y ∈ tw) (h3 : Cond.instanceMethod y ∈ tw) (h4 : Cond.initialized y.cls ∈ tw) (h5 : Cond.code y b nL ret ∈ tw) (hz : (⟨owner, x.name, x.desc⟩ : MethodName) ∈ tcx.2.2.2.2.1) (hrc : rm.cells = mc) (hrs : rm.slots = ms) (hd : owner ≠ "java/lang/invoke/MethodHandle" ∧ owner ≠ "java/lang/invoke/VarHandle" ∧ (parseMethodDescriptor x.desc).map (fun d => d.parameters.length) = some n)
    (h : Cond.methodLink own idx x ∈ tw) (hR : rm.frames + 1 ≤ R.frames ∧ 8 + (nL + 11) + rm.locals ≤ R.locals) : (∀ w ∈ tw, w.before args s = true) → tc_N tcx s → va_CU R s args own C owner idx x y b nL ret (Cond.code y b nL ret :: tw) rm mc ms n :=
  fun hts hN => va_cwA n hts (tw_GI (List.forall_mem_append.mpr ⟨List.forall_mem_cons.mpr ⟨h, List.forall_mem_cons.mpr ⟨h1, List.forall_mem_cons.mpr ⟨h2, List.forall_mem_cons.mpr ⟨h3, List.forall_mem_cons.mpr ⟨h4, fun _ q => absurd q List.not_mem_nil⟩⟩⟩⟩⟩, tw_c h5⟩)) rfl hrc hrs (hN.2.1 _ hz) hd hR
/-! what settle does, by what following, putting and narrowing do -/
def sf_1 (fol put : Nat → tc_S → tc_S) : Nat → tc_S → tc_S
  | 0, u => u
  | i + 1, u => put (i + 1) (fol i (sf_1 fol put i u))
def sf_2 (fol nar : Nat → tc_S → tc_S) (nch : Nat → tc_S → Int32) (tg : Nat → tc_S → Nat) : Nat → tc_S × Int32 → tc_S × Int32
  | 0, x => x
  | i + 1, x => (nar (tg i (nar (i + 1) (fol i (sf_2 fol nar nch tg i x).1))) (nar (i + 1) (fol i (sf_2 fol nar nch tg i x).1)), ((sf_2 fol nar nch tg i x).2 ||| nch (i + 1) (fol i (sf_2 fol nar nch tg i x).1)) ||| nch (tg i (nar (i + 1) (fol i (sf_2 fol nar nch tg i x).1))) (nar (i + 1) (fol i (sf_2 fol nar nch tg i x).1)))
def sf_3 (fol nar : Nat → tc_S → tc_S) (nch : Nat → tc_S → Int32) (tg : Nat → tc_S → Nat) (n : Nat) : Nat → tc_S → tc_S
  | 0, u => u
  | f + 1, u => if (sf_2 fol nar nch tg n (u, 0)).2 = 0 then (sf_2 fol nar nch tg n (u, 0)).1 else sf_3 fol nar nch tg n f (sf_2 fol nar nch tg n (u, 0)).1
/-- the cells below 13 (the programs) are as they were -/
def sf_F (u v : tc_S) : Prop := ∀ q, q < 14 → v q = u q
theorem sf_F.tr {u v w : tc_S} (h : sf_F u v) (k : sf_F v w) : sf_F u w := fun q hq => (k q hq).trans (h q hq)
theorem sf_Fpv {u v : tc_S} (h : sf_F u v) {b : Nat} (hb : b + 4 ≤ 14) {j i : Nat} (hj : j < 4) : pv v b j i = pv u b j i := by unfold pv; rw [h (b + j) (by omega)]
theorem sf_Fline {u v : tc_S} (h : sf_F u v) {b : Nat} (hb : b + 4 ≤ 14) {i : Nat} (hl : tp_line (pv u b) i) : tp_line (pv v b) i := by
  unfold tp_line at hl ⊢
  rw [sf_Fpv h hb (by omega), sf_Fpv h hb (by omega), sf_Fpv h hb (by omega), sf_Fpv h hb (by omega)]; exact hl
theorem sf_Ftg {u v : tc_S} (h : sf_F u v) {b n : Nat} (hb : b + 4 ≤ 14) {i : Nat} : tp_tg n (pv v b) i = tp_tg n (pv u b) i := by
  unfold tp_tg
  rw [sf_Fpv h hb (by omega), sf_Fpv h hb (by omega)]
theorem tp_tg_le {n : Nat} {P : tp_P} {i : Nat} (hi : i < n) : tp_tg n P i ≤ n := by
  unfold tp_tg
  split
  · split <;> omega
  · omega
theorem sf_F1 {fol put : Nat → tc_S → tc_S} (hf : ∀ i v, sf_F v (fol i v)) (hp : ∀ i v, sf_F v (put i v)) (u : tc_S) : ∀ i, sf_F u (sf_1 fol put i u)
  | 0 => fun _ _ => rfl
  | i + 1 => (sf_F1 hf hp u i).tr ((hf _ _).tr (hp _ _))
theorem sf_F2 {fol nar : Nat → tc_S → tc_S} {nch : Nat → tc_S → Int32} {tg : Nat → tc_S → Nat} (hf : ∀ i v, sf_F v (fol i v)) (hn : ∀ i v, sf_F v (nar i v)) (x : tc_S × Int32) : ∀ i, sf_F x.1 (sf_2 fol nar nch tg i x).1
  | 0 => fun _ _ => rfl
  | i + 1 => (sf_F2 hf hn x i).tr ((hf _ _).tr ((hn _ _).tr (hn _ _)))
theorem nI_mil {t : Nat} (h : t < 1000000) : ¬ (1000000 : Int32) ≤ nI t := by rw [show (1000000 : Int32) = nI 1000000 from rfl]; exact nI_ge h (by omega)
def sp_fol (i : Nat) (v : tc_S) : tc_S := tc_row v 22 (tp_fb (pv v 9) i (fun r => v (16 + r) i)) 6
def sp_put (q : Nat) (v : tc_S) : tc_S := tc_col v 16 q (fun r => v 22 r) 6
noncomputable def sp_nar (q : Nat) (v : tc_S) : tc_S := tc_col v 16 q (tc_pf v q) 6
noncomputable def sp_nch (q : Nat) (v : tc_S) : Int32 := tp_b (∃ r, r < 6 ∧ tc_pn v q r)
theorem sp_F1 (i : Nat) (v : tc_S) : sf_F v (sp_fol i v) := fun q hq => tc_row_ne (by omega)
theorem sp_F2 (i : Nat) (v : tc_S) : sf_F v (sp_put i v) := fun q hq => tc_col_out (by omega)
theorem sp_F3 (i : Nat) (v : tc_S) : sf_F v (sp_nar i v) := fun q hq => tc_col_out (by omega)
set_option maxRecDepth 100000 in
set_option maxHeartbeats 4000000 in
theorem c_F_settle_P (l : Launch) (G : tc_G) (u : tc_S) {n : Nat} (hs : u 7 1 = nI n) (hn : n ≤ 16) (hP : ∀ i, i < n → tp_line (pv u 9) i)  : tc_C tcx G l yF_settle wF_settle r0F_settle 0 0 [.ref (tc_ad G 14), .ref (tc_ad G 7), .ref (tc_ad G 7)] u (tc_Kv (sf_3 sp_fol sp_nar sp_nch (fun i v => tp_tg n (pv v 9) i) n 1000000 (sf_1 sp_fol sp_put n u))) := by
  refine tw_ofV (own := "TracedCode$Facts") [some (.ref (tc_ad G 14)), some (.ref (tc_ad G 7)), some (.ref (tc_ad G 7)), none, none, none] (by decide +kernel) rfl (Nat.le_of_ble_eq_true rfl) (by rfl) (fun p e s m args below meth c => ?_)
  obtain ⟨w, hw⟩ : ∃ w, w = (sf_3 sp_fol sp_nar sp_nch (fun i v => tp_tg n (pv v 9) i) n 1000000 (sf_1 sp_fol sp_put n u)) := ⟨_, rfl⟩
  rw [← hw]
  have pass : ∀ (t : Nat) (v : tc_S), sf_F u v → tc_V tcx G p l e r0F_settle s m args below meth c bF_settle 6 tw "TracedCode$Facts" none [] (MQ below (tc_Qc tcx G (tc_Kv w) s.heap.size) args s 0 0 (tc_A tcx G s.heap.size)) 0 0 (sf_2 sp_fol sp_nar sp_nch (fun i v => tp_tg n (pv v 9) i) n (v, 0)).1 98 [some (.ref (tc_ad G 14)), some (.ref (tc_ad G 7)), some (.ref (tc_ad G 7)), some (.int (sf_2 sp_fol sp_nar sp_nch (fun i v => tp_tg n (pv v 9) i) n (v, 0)).2), some (.int (nI t)), some (.int (nI n))] [] → tc_V tcx G p l e r0F_settle s m args below meth c bF_settle 6 tw "TracedCode$Facts" none [] (MQ below (tc_Qc tcx G (tc_Kv w) s.heap.size) args s 0 0 (tc_A tcx G s.heap.size)) 0 0 v 51 [some (.ref (tc_ad G 14)), some (.ref (tc_ad G 7)), some (.ref (tc_ad G 7)), some (.int 0), some (.int (nI t)), some (.int (nI 0))] [] := by
    intro t v hv hend
    have hF : ∀ i, sf_F u (sf_2 sp_fol sp_nar sp_nch (fun i v => tp_tg n (pv v 9) i) i (v, 0)).1 := fun i => hv.tr (sf_F2 sp_F1 sp_F3 (v, 0) i)
    have key : tc_V tcx G p l e r0F_settle s m args below meth c bF_settle 6 tw "TracedCode$Facts" none [] (MQ below (tc_Qc tcx G (tc_Kv w) s.heap.size) args s 0 0 (tc_A tcx G s.heap.size)) 0 0 (sf_2 sp_fol sp_nar sp_nch (fun i v => tp_tg n (pv v 9) i) 0 (v, 0)).1 51 [some (.ref (tc_ad G 14)), some (.ref (tc_ad G 7)), some (.ref (tc_ad G 7)), some (.int (sf_2 sp_fol sp_nar sp_nch (fun i v => tp_tg n (pv v 9) i) 0 (v, 0)).2), some (.int (nI t)), some (.int (nI 0))] [] := by
      refine tv_down (P := fun i => tc_V tcx G p l e r0F_settle s m args below meth c bF_settle 6 tw "TracedCode$Facts" none [] (MQ below (tc_Qc tcx G (tc_Kv w) s.heap.size) args s 0 0 (tc_A tcx G s.heap.size)) 0 0 (sf_2 sp_fol sp_nar sp_nch (fun i v => tp_tg n (pv v 9) i) i (v, 0)).1 51 [some (.ref (tc_ad G 14)), some (.ref (tc_ad G 7)), some (.ref (tc_ad G 7)), some (.int (sf_2 sp_fol sp_nar sp_nch (fun i v => tp_tg n (pv v 9) i) i (v, 0)).2), some (.int (nI t)), some (.int (nI i))] []) n ?_ ?_
      · have hsz : (sf_2 sp_fol sp_nar sp_nch (fun i v => tp_tg n (pv v 9) i) n (v, 0)).1 7 1 = nI n := by rw [hF n 7 (by omega), hs]
        refine tv_iload (pc := 51) dF_settle_51 (by rfl) ?_
        refine tv_aload_n (pc := 53) dF_settle_53 (by rfl) ?_
        refine tv_callVi (pc := 54) [] tb_7 (by rfl) (c_C_size l G _ code_7) (kVC_size wm_192 ⟨by decide, by decide⟩) (by rfl) (Nat.le_of_ble_eq_true rfl) dF_settle_54 ⟨by decide, by decide⟩ ?_
        refine tv_icmp_ge (pc := 57) 98 dF_settle_57 (by decide) (fun _ => ?_) (fun h => absurd (by rw [hsz]; exact Int32.le_refl _) h)
        exact hend
      · intro i hiN ih
        have hsz : (sf_2 sp_fol sp_nar sp_nch (fun i v => tp_tg n (pv v 9) i) i (v, 0)).1 7 1 = nI n := by rw [hF i 7 (by omega), hs]
        have hi16 : tc_ix (nI i) 16 i := tc_ixN (by omega) (by decide)
        have hl := sf_Fline (hF i) (b := 9) (by omega) (hP i hiN)
        obtain ⟨v0, hv0⟩ : ∃ v0, v0 = (sf_2 sp_fol sp_nar sp_nch (fun i v => tp_tg n (pv v 9) i) i (v, 0)) := ⟨_, rfl⟩
        have eih : sf_2 sp_fol sp_nar sp_nch (fun i v => tp_tg n (pv v 9) i) (i + 1) (v, 0) = (sp_nar ((fun i v => tp_tg n (pv v 9) i) i (sp_nar (i + 1) (sp_fol i v0.1))) (sp_nar (i + 1) (sp_fol i v0.1)), (v0.2 ||| sp_nch (i + 1) (sp_fol i v0.1)) ||| sp_nch ((fun i v => tp_tg n (pv v 9) i) i (sp_nar (i + 1) (sp_fol i v0.1))) (sp_nar (i + 1) (sp_fol i v0.1))) := by rw [hv0]; rfl
        rw [eih, ← nI_1] at ih
        have hF0 : sf_F u v0.1 := by rw [hv0]; exact hF i
        rw [← hv0] at hsz hl ⊢
        refine tv_iload (pc := 51) dF_settle_51 (by rfl) ?_
        refine tv_aload_n (pc := 53) dF_settle_53 (by rfl) ?_
        refine tv_callVi (pc := 54) [] tb_7 (by rfl) (c_C_size l G _ code_7) (kVC_size wm_192 ⟨by decide, by decide⟩) (by rfl) (Nat.le_of_ble_eq_true rfl) dF_settle_54 ⟨by decide, by decide⟩ ?_
        refine tv_icmp_ge (pc := 57) 98 dF_settle_57 (by decide) (fun h => absurd h (by rw [hsz]; exact nI_ge (by omega) (by omega))) (fun _ => ?_)
        refine tv_aload_n (pc := 60) dF_settle_60 (by rfl) ?_
        refine tv_aload_n (pc := 61) dF_settle_61 (by rfl) ?_
        refine tv_aload_n (pc := 62) dF_settle_62 (by rfl) ?_
        refine tv_iload (pc := 63) dF_settle_63 (by rfl) ?_
        refine tv_callUv (pc := 65) [_, _, _] tb_14 (by rfl) (c_P_follow l G v0.1 (k2 := 7) code_7 (by decide) (by omega : i < 16) hl) (tw_kU (rm := r0P_follow) (x := (⟨"TracedCode$Facts", "follow", "(LTracedCode$Code;LTracedCode$Code;I)V"⟩ : MethodName)) 3 wm_198 wm_221 wm_222 wm_5 wm_223 (by decide +kernel) rfl rfl (by decide +kernel) wm_196 ⟨by decide, by decide⟩) (by rfl) (Nat.le_of_ble_eq_true rfl) dF_settle_65 ⟨by decide, by decide⟩ ?_
        refine tv_iload_n (pc := 68) dF_settle_68 (by rfl) ?_
        refine tv_aload_n (pc := 69) dF_settle_69 (by rfl) ?_
        refine tv_iload (pc := 70) dF_settle_70 (by rfl) ?_
        refine tv_iconst (v := 1) (pc := 72) dF_settle_72 (by decide) ?_
        refine tv_iadd (pc := 73) dF_settle_73 ?_
        rw [nI_1]
        refine tv_callUi (pc := 74) [_] tb_14 (by rfl) (c_P_narrow l G (sp_fol i v0.1) (pt := (i + 1)) (tc_ixN (by omega) (by decide))) (tw_kU (rm := r0P_narrow) (x := (⟨"TracedCode$Facts", "narrow", "(I)Z"⟩ : MethodName)) 1 wm_239 wm_243 wm_244 wm_5 wm_245 (by decide +kernel) rfl rfl (by decide +kernel) wm_237 ⟨by decide, by decide⟩) (by rfl) (Nat.le_of_ble_eq_true rfl) dF_settle_74 ⟨by decide, by decide⟩ ?_
        refine tv_ior (pc := 77) dF_settle_77 ?_
        refine tv_istore3 (pc := 78) dF_settle_78 (by rfl) ?_
        refine tv_iload_n (pc := 79) dF_settle_79 (by rfl) ?_
        refine tv_aload_n (pc := 80) dF_settle_80 (by rfl) ?_
        have hF1 : sf_F u (sp_nar (i + 1) (sp_fol i v0.1)) := hF0.tr ((sp_F1 _ _).tr (sp_F3 _ _))
        have hsz1 : (sp_nar (i + 1) (sp_fol i v0.1)) 7 1 = nI n := by rw [hF1 7 (by omega), hs]
        have h4 := (sf_Fline hF1 (b := 9) (by omega) (hP i hiN)).2.2.2.1
        refine tv_aload_n (pc := 81) dF_settle_81 (by rfl) ?_
        refine tv_iload (pc := 82) dF_settle_82 (by rfl) ?_
        refine tv_callVi (pc := 84) [_] tb_7 (by rfl) (c_C_target l G _ code_7 hi16 hsz1 hn h4) (kVC_target wm_246 ⟨by decide, by decide⟩) (by rfl) (Nat.le_of_ble_eq_true rfl) dF_settle_84 ⟨by decide, by decide⟩ ?_
        refine tv_callUi (pc := 87) [_] tb_14 (by rfl) (c_P_narrow l G (sp_nar (i + 1) (sp_fol i v0.1)) (pt := (tp_tg n (pv (sp_nar (i + 1) (sp_fol i v0.1)) 9) i)) (tc_ixN (by have := tp_tg_le (n := n) (P := pv (sp_nar (i + 1) (sp_fol i v0.1)) 9) hiN; omega) (by decide))) (tw_kU (rm := r0P_narrow) (x := (⟨"TracedCode$Facts", "narrow", "(I)Z"⟩ : MethodName)) 1 wm_239 wm_243 wm_244 wm_5 wm_245 (by decide +kernel) rfl rfl (by decide +kernel) wm_237 ⟨by decide, by decide⟩) (by rfl) (Nat.le_of_ble_eq_true rfl) dF_settle_87 ⟨by decide, by decide⟩ ?_
        refine tv_ior (pc := 90) dF_settle_90 ?_
        refine tv_istore3 (pc := 91) dF_settle_91 (by rfl) ?_
        refine tv_iinc5 (v := 1) (pc := 92) dF_settle_92 (by decide) (by rfl) ?_
        refine tv_goto (pc := 95) 51 dF_settle_95 (by decide) ?_
        exact ih
    exact key
  have reps : ∀ d t : Nat, t + d = 1000000 → ∀ (v : tc_S) (c0 : Int32) (z : Option Value), sf_F u v → (if c0 = 0 then v else sf_3 sp_fol sp_nar sp_nch (fun i v => tp_tg n (pv v 9) i) n d v) = w → tc_V tcx G p l e r0F_settle s m args below meth c bF_settle 6 tw "TracedCode$Facts" none [] (MQ below (tc_Qc tcx G (tc_Kv w) s.heap.size) args s 0 0 (tc_A tcx G s.heap.size)) 0 0 v 35 [some (.ref (tc_ad G 14)), some (.ref (tc_ad G 7)), some (.ref (tc_ad G 7)), some (.int c0), some (.int (nI t)), z] [] := by
    intro d
    induction d with
    | zero =>
      intro t ht v c0 z hv he
      have e : t = 1000000 := by omega
      refine tv_iload_n (pc := 35) dF_settle_35 (by rfl) ?_
      refine tv_if_eq (pc := 36) 104 dF_settle_36 (by decide) (fun h36 => ?_) (fun h36 => ?_)
      · skip
        exact tv_vret (pc := 104) dF_settle_104 rfl (Nat.le_refl _) (Nat.le_refl _) ⟨rfl, by first | (rw [if_pos (by assumption)] at he; exact he) | (rw [if_neg (by assumption)] at he; exact he)⟩
      · skip
        refine tv_iload (pc := 39) dF_settle_39 (by rfl) ?_
        refine tv_ldc (pc := 41)  wm_236 dF_settle_41 ?_
        refine tv_icmp_ge (pc := 43) 104 dF_settle_43 (by decide) (fun _ => ?_) (fun h => absurd (by rw [e]; decide) h)
        exact tv_vret (pc := 104) dF_settle_104 rfl (Nat.le_refl _) (Nat.le_refl _) ⟨rfl, by first | (rw [if_pos (by assumption)] at he; exact he) | (rw [if_neg (by assumption)] at he; exact he)⟩
    | succ d ihd =>
      intro t ht v c0 z hv he
      refine tv_iload_n (pc := 35) dF_settle_35 (by rfl) ?_
      refine tv_if_eq (pc := 36) 104 dF_settle_36 (by decide) (fun h36 => ?_) (fun h36 => ?_)
      · skip
        exact tv_vret (pc := 104) dF_settle_104 rfl (Nat.le_refl _) (Nat.le_refl _) ⟨rfl, by rw [if_pos (by assumption)] at he; exact he⟩
      · skip
        refine tv_iload (pc := 39) dF_settle_39 (by rfl) ?_
        refine tv_ldc (pc := 41)  wm_236 dF_settle_41 ?_
        refine tv_icmp_ge (pc := 43) 104 dF_settle_43 (by decide) (fun h => absurd h (nI_mil (by omega))) (fun _ => ?_)
        refine tv_iconst (v := 0) (pc := 46) dF_settle_46 (by decide) ?_
        refine tv_istore3 (pc := 47) dF_settle_47 (by rfl) ?_
        refine tv_iconst (v := 0) (pc := 48) dF_settle_48 (by decide) ?_
        refine tv_istore5 (pc := 49) dF_settle_49 (by rfl) ?_
        refine pass t v hv ?_
        have ih := ihd (t + 1) (by omega) (sf_2 sp_fol sp_nar sp_nch (fun i v => tp_tg n (pv v 9) i) n (v, 0)).1 (sf_2 sp_fol sp_nar sp_nch (fun i v => tp_tg n (pv v 9) i) n (v, 0)).2 (some (.int (nI n))) (hv.tr (sf_F2 sp_F1 sp_F3 (v, 0) n)) (by rw [if_neg (by assumption)] at he; exact he)
        rw [← nI_1] at ih
        refine tv_iinc4 (v := 1) (pc := 98) dF_settle_98 (by decide) (by rfl) ?_
        refine tv_goto (pc := 101) 35 dF_settle_101 (by decide) ?_
        exact ih
  have hF : ∀ i, sf_F u (sf_1 sp_fol sp_put i u) := sf_F1 sp_F1 sp_F2 u
  have way : tc_V tcx G p l e r0F_settle s m args below meth c bF_settle 6 tw "TracedCode$Facts" none [] (MQ below (tc_Qc tcx G (tc_Kv w) s.heap.size) args s 0 0 (tc_A tcx G s.heap.size)) 0 0 (sf_1 sp_fol sp_put 0 u) 2 [some (.ref (tc_ad G 14)), some (.ref (tc_ad G 7)), some (.ref (tc_ad G 7)), some (.int (nI 0)), none, none] [] := by
    refine tv_down (P := fun i => tc_V tcx G p l e r0F_settle s m args below meth c bF_settle 6 tw "TracedCode$Facts" none [] (MQ below (tc_Qc tcx G (tc_Kv w) s.heap.size) args s 0 0 (tc_A tcx G s.heap.size)) 0 0 (sf_1 sp_fol sp_put i u) 2 [some (.ref (tc_ad G 14)), some (.ref (tc_ad G 7)), some (.ref (tc_ad G 7)), some (.int (nI i)), none, none] []) n ?_ ?_
    · have hsz : (sf_1 sp_fol sp_put n u) 7 1 = nI n := by rw [hF n 7 (by omega), hs]
      refine tv_iload_n (pc := 2) dF_settle_2 (by rfl) ?_
      refine tv_aload_n (pc := 3) dF_settle_3 (by rfl) ?_
      refine tv_callVi (pc := 4) [] tb_7 (by rfl) (c_C_size l G _ code_7) (kVC_size wm_192 ⟨by decide, by decide⟩) (by rfl) (Nat.le_of_ble_eq_true rfl) dF_settle_4 ⟨by decide, by decide⟩ ?_
      refine tv_icmp_ge (pc := 7) 30 dF_settle_7 (by decide) (fun _ => ?_) (fun h => absurd (by rw [hsz]; exact Int32.le_refl _) h)
      refine tv_iconst (v := 1) (pc := 30) dF_settle_30 (by decide) ?_
      refine tv_istore3 (pc := 31) dF_settle_31 (by rfl) ?_
      refine tv_iconst (v := 0) (pc := 32) dF_settle_32 (by decide) ?_
      refine tv_istore4 (pc := 33) dF_settle_33 (by rfl) ?_
      exact reps 1000000 0 (by omega) _ 1 none (hF n) (by rw [if_neg (by decide)]; exact hw.symm)
    · intro i hiN ih
      have hsz : (sf_1 sp_fol sp_put i u) 7 1 = nI n := by rw [hF i 7 (by omega), hs]
      have hi16 : tc_ix (nI i) 16 i := tc_ixN (by omega) (by decide)
      have hl := sf_Fline (hF i) (b := 9) (by omega) (hP i hiN)
      obtain ⟨v0, hv0⟩ : ∃ v0, v0 = (sf_1 sp_fol sp_put i u) := ⟨_, rfl⟩
      rw [show sf_1 sp_fol sp_put (i + 1) u = sp_put (i + 1) (sp_fol i v0) from by rw [hv0]; rfl, ← nI_1] at ih
      have hF0 : sf_F u v0 := by rw [hv0]; exact hF i
      rw [← hv0] at hsz hl ⊢
      refine tv_iload_n (pc := 2) dF_settle_2 (by rfl) ?_
      refine tv_aload_n (pc := 3) dF_settle_3 (by rfl) ?_
      refine tv_callVi (pc := 4) [] tb_7 (by rfl) (c_C_size l G _ code_7) (kVC_size wm_192 ⟨by decide, by decide⟩) (by rfl) (Nat.le_of_ble_eq_true rfl) dF_settle_4 ⟨by decide, by decide⟩ ?_
      refine tv_icmp_ge (pc := 7) 30 dF_settle_7 (by decide) (fun h => absurd h (by rw [hsz]; exact nI_ge (by omega) (by omega))) (fun _ => ?_)
      refine tv_aload_n (pc := 10) dF_settle_10 (by rfl) ?_
      refine tv_aload_n (pc := 11) dF_settle_11 (by rfl) ?_
      refine tv_aload_n (pc := 12) dF_settle_12 (by rfl) ?_
      refine tv_iload_n (pc := 13) dF_settle_13 (by rfl) ?_
      refine tv_callUv (pc := 14) [_, _, _] tb_14 (by rfl) (c_P_follow l G v0 (k2 := 7) code_7 (by decide) (by omega : i < 16) hl) (tw_kU (rm := r0P_follow) (x := (⟨"TracedCode$Facts", "follow", "(LTracedCode$Code;LTracedCode$Code;I)V"⟩ : MethodName)) 3 wm_198 wm_221 wm_222 wm_5 wm_223 (by decide +kernel) rfl rfl (by decide +kernel) wm_196 ⟨by decide, by decide⟩) (by rfl) (Nat.le_of_ble_eq_true rfl) dF_settle_14 ⟨by decide, by decide⟩ ?_
      refine tv_aload_n (pc := 17) dF_settle_17 (by rfl) ?_
      refine tv_iload_n (pc := 18) dF_settle_18 (by rfl) ?_
      refine tv_iconst (v := 1) (pc := 19) dF_settle_19 (by decide) ?_
      refine tv_iadd (pc := 20) dF_settle_20 ?_
      rw [nI_1]
      refine tv_callUv (pc := 21) [_] tb_14 (by rfl) (c_P_put l G (sp_fol i v0) (pt := (i + 1)) (tc_ixN (by omega) (by decide))) (tw_kU (rm := r0P_put) (x := (⟨"TracedCode$Facts", "put", "(I)V"⟩ : MethodName)) 1 wm_229 wm_233 wm_234 wm_5 wm_235 (by decide +kernel) rfl rfl (by decide +kernel) wm_227 ⟨by decide, by decide⟩) (by rfl) (Nat.le_of_ble_eq_true rfl) dF_settle_21 ⟨by decide, by decide⟩ ?_
      refine tv_iinc3 (v := 1) (pc := 24) dF_settle_24 (by decide) (by rfl) ?_
      refine tv_goto (pc := 27) 2 dF_settle_27 (by decide) ?_
      exact ih
  refine tv_iconst (v := 0) (pc := 0) dF_settle_0 (by decide) ?_
  refine tv_istore3 (pc := 1) dF_settle_1 (by rfl) ?_
  exact way
end
section
set_option maxRecDepth 100000 in
set_option maxHeartbeats 4000000 in
theorem c_A_fill (l : Launch) (G : tc_G) (u : tc_S) {k n : Nat} {li : List Nat} (hk : tcx.1[k]? = some (0, n, li)) (hn : n < 2 ^ 31) (x : Int32) : tc_C tcx G l yA_fill wA_fill r0A_fill 0 0 [.ref (tc_ad G k), .int x] u (tc_Kv (tc_row u k (fun _ => x) n)) := by
  refine tw_ofV (own := "java/util/Arrays") [some (.ref (tc_ad G k)), some (.int x), none, none] (by decide +kernel) rfl (Nat.le_of_ble_eq_true rfl) (by rfl) (fun p e s m args below meth c => ?_)
  have loop : tc_V tcx G p l e r0A_fill s m args below meth c bA_fill 4 tw "java/util/Arrays" none [] (MQ below (tc_Qc tcx G (tc_Kv (tc_row u k (fun _ => x) n)) s.heap.size) args s 0 0 (tc_A tcx G s.heap.size)) 0 0 (tc_row u k (fun _ => x) 0) 5 [some (.ref (tc_ad G k)), some (.int x), some (.int (nI 0)), some (.int (nI n))] [] := by
    refine tv_down (P := fun i => tc_V tcx G p l e r0A_fill s m args below meth c bA_fill 4 tw "java/util/Arrays" none [] (MQ below (tc_Qc tcx G (tc_Kv (tc_row u k (fun _ => x) n)) s.heap.size) args s 0 0 (tc_A tcx G s.heap.size)) 0 0 (tc_row u k (fun _ => x) i) 5 [some (.ref (tc_ad G k)), some (.int x), some (.int (nI i)), some (.int (nI n))] []) n ?_ ?_
    · skip
      refine tv_iload_n (pc := 5) dA_fill_5 (by rfl) ?_
      refine tv_iload_n (pc := 6) dA_fill_6 (by rfl) ?_
      refine tv_icmp_ge (pc := 7) 20 dA_fill_7 (by decide) (fun _ => ?_) (fun h => absurd (Int32.le_refl _) h)
      exact tv_vret (pc := 20) dA_fill_20 rfl (Nat.le_refl _) (Nat.le_refl _) ⟨rfl, rfl⟩
    · intro i hiN ih
      have hin : tc_ix (nI i) n i := tc_ixN hiN hn
      rw [← tc_row_s (i := i) (f := fun _ => x), ← nI_1] at ih
      refine tv_iload_n (pc := 5) dA_fill_5 (by rfl) ?_
      refine tv_iload_n (pc := 6) dA_fill_6 (by rfl) ?_
      refine tv_icmp_ge (pc := 7) 20 dA_fill_7 (by decide) (fun h => absurd h (nI_ge hiN hn)) (fun _ => ?_)
      refine tv_aload_n (pc := 10) dA_fill_10 (by rfl) ?_
      refine tv_iload_n (pc := 11) dA_fill_11 (by rfl) ?_
      refine tv_iload_n (pc := 12) dA_fill_12 (by rfl) ?_
      refine tv_iast (pc := 13) hk hin dA_fill_13 ?_
      refine tv_iinc2 (v := 1) (pc := 14) dA_fill_14 (by decide) (by rfl) ?_
      refine tv_goto (pc := 17) 5 dA_fill_17 (by decide) ?_
      exact ih
  rw [tc_row_0] at loop
  refine tv_iconst (v := 0) (pc := 0) dA_fill_0 (by decide) ?_
  refine tv_istore2 (pc := 1) dA_fill_1 (by rfl) ?_
  refine tv_aload_n (pc := 2) dA_fill_2 (by rfl) ?_
  refine tv_alen (v := nI n) (pc := 3) hk (by rfl) dA_fill_3 ?_
  refine tv_istore3 (pc := 4) dA_fill_4 (by rfl) ?_
  exact loop
theorem sf_F3 {fol nar : Nat → tc_S → tc_S} {nch : Nat → tc_S → Int32} {tg : Nat → tc_S → Nat} {n : Nat} (hf : ∀ i v, sf_F v (fol i v)) (hn : ∀ i v, sf_F v (nar i v)) : ∀ (f : Nat) (u : tc_S), sf_F u (sf_3 fol nar nch tg n f u)
  | 0, _ => fun _ _ => rfl
  | f + 1, u => by
    unfold sf_3
    split
    · exact sf_F2 hf hn (u, 0) n
    · exact (sf_F2 hf hn (u, 0) n).tr (sf_F3 hf hn f _)
noncomputable def sp_find (n : Nat) (u : tc_S) : tc_S := sf_3 sp_fol sp_nar sp_nch (fun i v => tp_tg n (pv v 9) i) n 1000000 (sf_1 sp_fol sp_put n (tc_col u 16 0 (fun _ => -1) 6))
theorem sp_findF (n : Nat) (u : tc_S) : sf_F u (sp_find n u) := by
  have h0 : sf_F u (tc_col u 16 0 (fun _ => -1) 6) := fun q hq => tc_col_out (by omega)
  exact h0.tr ((sf_F1 sp_F1 sp_F2 _ n).tr (sf_F3 sp_F1 sp_F3 1000000 _))
set_option maxRecDepth 100000 in
set_option maxHeartbeats 4000000 in
theorem c_P_find (l : Launch) (G : tc_G) (u : tc_S) {n : Nat} (hs : u 7 1 = nI n) (hn : n ≤ 16) (hP : ∀ i, i < n → tp_line (pv u 9) i) : tc_C tcx G l yP_find wP_find r0P_find 0 0 [.ref (tc_ad G 14), .ref (tc_ad G 7)] u (tc_Kv (sp_find n u)) := by
  refine tw_ofV (own := "TracedCode$Copies") [some (.ref (tc_ad G 14)), some (.ref (tc_ad G 7)), none] (by decide +kernel) rfl (Nat.le_of_ble_eq_true rfl) (by rfl) (fun p e s m args below meth c => ?_)
  have loop : tc_V tcx G p l e r0P_find s m args below meth c bP_find 3 tw "TracedCode$Copies" none [] (MQ below (tc_Qc tcx G (tc_Kv (sp_find n u)) s.heap.size) args s 0 0 (tc_A tcx G s.heap.size)) 0 0 (tc_col u 16 0 (fun _ => -1) 0) 2 [some (.ref (tc_ad G 14)), some (.ref (tc_ad G 7)), some (.int (nI 0))] [] := by
    refine tv_down (P := fun i => tc_V tcx G p l e r0P_find s m args below meth c bP_find 3 tw "TracedCode$Copies" none [] (MQ below (tc_Qc tcx G (tc_Kv (sp_find n u)) s.heap.size) args s 0 0 (tc_A tcx G s.heap.size)) 0 0 (tc_col u 16 0 (fun _ => -1) i) 2 [some (.ref (tc_ad G 14)), some (.ref (tc_ad G 7)), some (.int (nI i))] []) 6 ?_ ?_
    · have h0 : sf_F u (tc_col u 16 0 (fun _ => -1) 6) := fun q hq => tc_col_out (by omega)
      refine tv_iload_n (pc := 2) dP_find_2 (by rfl) ?_
      refine tv_bipush (v := 6) (pc := 3) dP_find_3 (by decide) ?_
      refine tv_icmp_ge (pc := 5) 23 dP_find_5 (by decide) (fun _ => ?_) (fun h => absurd (by decide) h)
      refine tv_aload_n (pc := 23) dP_find_23 (by rfl) ?_
      refine tv_aload_n (pc := 24) dP_find_24 (by rfl) ?_
      refine tv_aload_n (pc := 25) dP_find_25 (by rfl) ?_
      refine tv_callUv (pc := 26) [_, _] tb_14 (by rfl) (c_F_settle_P l G _ (by rw [h0 7 (by omega)]; exact hs) hn (fun i hi => sf_Fline h0 (by omega) (hP i hi))) (tw_kU (rm := r0F_settle) (x := (⟨"TracedCode$Copies", "settle", "(LTracedCode$Code;LTracedCode$Code;)V"⟩ : MethodName)) 2 wm_187 wm_189 wm_190 wm_4 wm_191 (by decide +kernel) rfl rfl (by decide +kernel) wm_186 ⟨by decide, by decide⟩) (by rfl) (Nat.le_of_ble_eq_true rfl) dP_find_26 ⟨by decide, by decide⟩ ?_
      exact tv_vret (pc := 29) dP_find_29 rfl (Nat.le_refl _) (Nat.le_refl _) ⟨rfl, rfl⟩
    · intro i hiN ih
      have hi6 : tc_ix (nI i) 6 i := tc_ixN hiN (by decide)
      rw [← tc_col_s (i := i) (f := fun _ => -1), ← nI_1] at ih
      refine tv_iload_n (pc := 2) dP_find_2 (by rfl) ?_
      refine tv_bipush (v := 6) (pc := 3) dP_find_3 (by decide) ?_
      refine tv_icmp_ge (pc := 5) 23 dP_find_5 (by decide) (fun h => absurd h (nI_lt6 hiN)) (fun _ => ?_)
      refine tv_aload_n (pc := 8) dP_find_8 (by rfl) ?_
      refine tv_getR (pc := 9) 0 tb_14 (by rfl) uwP_ (by decide) wm_59 (by rfl) dP_find_9 ?_
      refine tv_iload_n (pc := 12) dP_find_12 (by rfl) ?_
      refine tv_aald (pc := 13) tb_15 hi6 dP_find_13 ?_
      refine tv_iconst (v := 0) (pc := 14) dP_find_14 (by decide) ?_
      refine tv_iconst (v := (-1)) (pc := 15) dP_find_15 (by decide) ?_
      refine tv_iast (pc := 16) (j := 0) (rows_16 _ hi6.2.2) ⟨by decide, by decide, by decide⟩ dP_find_16 ?_
      refine tv_iinc2 (v := 1) (pc := 17) dP_find_17 (by decide) (by rfl) ?_
      refine tv_goto (pc := 20) 2 dP_find_20 (by decide) ?_
      exact ih
  rw [tc_col_0] at loop
  refine tv_iconst (v := 0) (pc := 0) dP_find_0 (by decide) ?_
  refine tv_istore2 (pc := 1) dP_find_1 (by rfl) ?_
  exact loop
/-- a register or NONE -/
def sp_r (x : Int32) : Prop := x = -1 ∨ ∃ a, a < 6 ∧ x = nI a
def sp_ok (u : tc_S) : Prop := (∀ r, r < 6 → ∀ q, q < 17 → sp_r (u (16 + r) q)) ∧ ∀ r, r < 6 → sp_r (u 22 r)
theorem sp_ok_col {u : tc_S} {q : Nat} {f : Nat → Int32} (h : sp_ok u) (hf : ∀ r, r < 6 → sp_r (f r)) : sp_ok (tc_col u 16 q f 6) := by
  refine ⟨fun r hr z hz => ?_, fun r hr => ?_⟩
  · rw [tc_col_in hr]
    unfold upd
    split
    · exact hf r hr
    · exact h.1 r hr z hz
  · rw [tc_col_out (by omega)]; exact h.2 r hr
theorem sp_ok_fol {u : tc_S} {i : Nat} (h : sp_ok u) (hi : i < 17) (hl : tp_line (pv u 9) i) : sp_ok (sp_fol i u) := by
  refine ⟨fun r hr z hz => ?_, fun r hr => ?_⟩
  · unfold sp_fol; rw [tc_row_ne (by omega)]; exact h.1 r hr z hz
  · unfold sp_fol; rw [tc_row_in hr]
    unfold tp_fb
    split
    · next e => exact Or.inr (hl.2.2.1 (Or.inl e.1))
    · split
      · exact Or.inl rfl
      · exact h.1 r hr i hi
theorem sp_ok_nar {u : tc_S} {q : Nat} (h : sp_ok u) (hq : q < 17) : sp_ok (sp_nar q u) := sp_ok_col h (fun r hr => by
  unfold tc_pf
  split
  · exact Or.inl rfl
  · exact h.1 r hr q hq)
theorem sp_ok_1 {n : Nat} (hn : n ≤ 16) {u : tc_S} (hl : ∀ i, i < n → tp_line (pv u 9) i) (h : sp_ok u) : ∀ i, i ≤ n → sp_ok (sf_1 sp_fol sp_put i u)
  | 0, _ => h
  | i + 1, hi => by
    have a := sp_ok_1 hn hl h i (by omega)
    have b := sp_ok_fol (i := i) a (by omega) (sf_Fline (sf_F1 sp_F1 sp_F2 u i) (by omega) (hl i (by omega)))
    exact sp_ok_col b (fun r hr => b.2 r hr)
theorem sp_ok_2 {n : Nat} (hn : n ≤ 16) {x : tc_S × Int32} (hl : ∀ i, i < n → tp_line (pv x.1 9) i) (h : sp_ok x.1) : ∀ i, i ≤ n → sp_ok (sf_2 sp_fol sp_nar sp_nch (fun i v => tp_tg n (pv v 9) i) i x).1
  | 0, _ => h
  | i + 1, hi => by
    have a := sp_ok_2 hn hl h i (by omega)
    have b := sp_ok_fol (i := i) a (by omega) (sf_Fline (sf_F2 sp_F1 sp_F3 x i) (by omega) (hl i (by omega)))
    exact sp_ok_nar (sp_ok_nar b (by omega)) (Nat.lt_of_le_of_lt (tp_tg_le (by omega)) (by omega))
theorem sp_ok_3 {n : Nat} (hn : n ≤ 16) : ∀ (f : Nat) (u : tc_S), (∀ i, i < n → tp_line (pv u 9) i) → sp_ok u → sp_ok (sf_3 sp_fol sp_nar sp_nch (fun i v => tp_tg n (pv v 9) i) n f u)
  | 0, _, _, h => h
  | f + 1, u, hl, h => by
    have a := sp_ok_2 (x := (u, 0)) hn hl h n (Nat.le_refl _)
    unfold sf_3
    split
    · exact a
    · exact sp_ok_3 hn f _ (fun i hi => sf_Fline (sf_F2 sp_F1 sp_F3 (u, 0) n) (by omega) (hl i hi)) a
theorem sp_ok_find {n : Nat} (hn : n ≤ 16) {u : tc_S} (hl : ∀ i, i < n → tp_line (pv u 9) i) (h : sp_ok u) : sp_ok (sp_find n u) := by
  have h0 : sf_F u (tc_col u 16 0 (fun _ => -1) 6) := fun q hq => tc_col_out (by omega)
  have l0 : ∀ i, i < n → tp_line (pv (tc_col u 16 0 (fun _ => -1) 6) 9) i := fun i hi => sf_Fline h0 (by omega) (hl i hi)
  have a := sp_ok_1 hn l0 (sp_ok_col h (fun _ _ => Or.inl rfl)) n (Nat.le_refl _)
  exact sp_ok_3 hn 1000000 _ (fun i hi => sf_Fline (sf_F1 sp_F1 sp_F2 _ n) (by omega) (l0 i hi)) a
/-- the shortener's world: n lines that are lines, registers in the lists -/
def sp_I (n : Nat) (u : tc_S) : Prop := u 7 1 = nI n ∧ (∀ i, i < n → tp_line (pv u 9) i) ∧ sp_ok u
theorem sp_I_find {n : Nat} (hn : n ≤ 16) {u : tc_S} (h : sp_I n u) : sp_I n (sp_find n u) :=
  ⟨by rw [sp_findF n u 7 (by omega)]; exact h.1, fun i hi => sf_Fline (sp_findF n u) (by omega) (h.2.1 i hi), sp_ok_find hn h.2.1 h.2.2⟩
/-- passing one read on -/
def sp_pq (u : tc_S) (i j : Nat) : Prop := tp_rd (pv u 9) i j ∧ ¬ u (16 + tp_n (pv u 9 j i)) i = -1
noncomputable def sp_p1 (i j : Nat) (u : tc_S) : tc_S := @ite _ (sp_pq u i j) (Classical.propDecidable _) (tc_up u (9 + j) i (u (16 + tp_n (pv u 9 j i)) i)) u
theorem tp_rd_reg {P : tp_P} {i j : Nat} (hl : tp_line P i) (h : tp_rd P i j) : ∃ a, a < 6 ∧ P j i = nI a := by
  obtain ⟨-, h1, h2, -, h4, -⟩ := hl
  rcases h with ⟨rfl, k⟩ | ⟨rfl, k⟩ | ⟨rfl, k⟩
  · exact h1 (by rcases k with k | k <;> rw [k] <;> decide)
  · exact h2 k
  · exact h4 k
set_option maxRecDepth 100000 in
set_option maxHeartbeats 4000000 in
theorem c_S_passOneOn (l : Launch) (G : tc_G) (u : tc_S) {i j : Nat} (hi : i < 16) (hj : j < 4) {pl : Int32} (hpl : pl = nI j) (hl : tp_line (pv u 9) i) : tc_C tcx G l yS_passOneOn wS_passOneOn r0S_passOneOn 0 0 [.ref (tc_ad G 13), .ref (tc_ad G 7), .int (nI i), .int pl] u (tc_Ki (tp_b (sp_pq u i j)) (sp_p1 i j u)) := by
  refine tw_ofV (own := "TracedCode$Shortener") [some (.ref (tc_ad G 13)), some (.ref (tc_ad G 7)), some (.int (nI i)), some (.int pl), none] (by decide +kernel) rfl (Nat.le_of_ble_eq_true rfl) (by rfl) (fun p e s m args below meth c => ?_)
  have hi16 : tc_ix (nI i) 16 i := tc_ixN hi (by decide)
  have hi17 : tc_ix (nI i) 17 i := tc_ixN (by omega) (by decide)
  have hj4 : tc_ix pl 4 j := by rw [hpl]; exact tc_ixN hj (by decide)
  have no : ¬ sp_pq u i j → tc_Ki (tp_b (sp_pq u i j)) (sp_p1 i j u) (.returned (some (.int 0))) u := fun h => ⟨by rw [tp_b_f h], by unfold sp_p1; rw [if_neg h]⟩
  refine tv_aload_n (pc := 0) dS_passOneOn_0 (by rfl) ?_
  refine tv_iload_n (pc := 1) dS_passOneOn_1 (by rfl) ?_
  refine tv_iload_n (pc := 2) dS_passOneOn_2 (by rfl) ?_
  refine tv_callVi (pc := 3) [_, _] tb_7 (by rfl) (c_C_readsAt l G u code_7 hi16 hj hpl hl) (kVC_readsAt wm_255 ⟨by decide, by decide⟩) (by rfl) (Nat.le_of_ble_eq_true rfl) dS_passOneOn_3 ⟨by decide, by decide⟩ ?_
  refine tv_if_ne (pc := 6) 11 dS_passOneOn_6 (by decide) (fun h6 => ?_) (fun h6 => ?_)
  · skip
    have hrd : tp_rd (pv u 9) i j := Classical.byContradiction fun q => (by assumption : ¬ tp_b _ = 0) (tp_b_f q)
    obtain ⟨a, ha, ea⟩ := tp_rd_reg hl hrd
    have hr6 : tc_ix (u (9 + j) i) 6 a := by rw [show u (9 + j) i = nI a from ea]; exact tc_ixN ha (by decide)
    have en : tp_n (pv u 9 j i) = a := by rw [ea]; exact nI_clamp (by omega)
    refine tv_aload_n (pc := 11) dS_passOneOn_11 (by rfl) ?_
    refine tv_getR (pc := 12) 0 tb_13 (by rfl) uwS_ (by decide) wm_66 (by rfl) dS_passOneOn_12 ?_
    refine tv_iload_n (pc := 15) dS_passOneOn_15 (by rfl) ?_
    refine tv_aload_n (pc := 16) dS_passOneOn_16 (by rfl) ?_
    refine tv_iload_n (pc := 17) dS_passOneOn_17 (by rfl) ?_
    refine tv_iload_n (pc := 18) dS_passOneOn_18 (by rfl) ?_
    refine tv_callVi (pc := 19) [_, _] tb_7 (by rfl) (c_C_number l G u code_7 hi16 hj4) (kVC_number wm_261 ⟨by decide, by decide⟩) (by rfl) (Nat.le_of_ble_eq_true rfl) dS_passOneOn_19 ⟨by decide, by decide⟩ ?_
    refine tv_callVi (pc := 22) [_, _] tb_14 (by rfl) (c_P_origin l G u hi17 hr6) (kVP_origin wm_262 ⟨by decide, by decide⟩) (by rfl) (Nat.le_of_ble_eq_true rfl) dS_passOneOn_22 ⟨by decide, by decide⟩ ?_
    refine tv_istore4 (pc := 25) dS_passOneOn_25 (by rfl) ?_
    refine tv_iload (pc := 27) dS_passOneOn_27 (by rfl) ?_
    refine tv_iconst (v := (-1)) (pc := 29) dS_passOneOn_29 (by decide) ?_
    refine tv_icmp_ne (pc := 30) 35 dS_passOneOn_30 (by decide) (fun h30 => ?_) (fun h30 => ?_)
    · skip
      refine tv_aload_n (pc := 35) dS_passOneOn_35 (by rfl) ?_
      refine tv_iload_n (pc := 36) dS_passOneOn_36 (by rfl) ?_
      refine tv_iload_n (pc := 37) dS_passOneOn_37 (by rfl) ?_
      refine tv_iload (pc := 38) dS_passOneOn_38 (by rfl) ?_
      refine tv_callVv (pc := 40) [_, _, _] tb_7 (by rfl) (c_C_readInstead l G u code_7 hi16 hj4 _) (kVC_readInstead wm_266 ⟨by decide, by decide⟩) (by rfl) (Nat.le_of_ble_eq_true rfl) dS_passOneOn_40 ⟨by decide, by decide⟩ ?_
      refine tv_iconst (v := 1) (pc := 43) dS_passOneOn_43 (by decide) ?_
      exact tv_zret (pc := 44) dS_passOneOn_44 rfl (Nat.le_refl _) (Nat.le_refl _) (by rfl)  ⟨by rw [tp_b_t ⟨hrd, by rw [en]; assumption⟩], by unfold sp_p1; rw [if_pos ⟨hrd, by rw [en]; assumption⟩, en]⟩
    · skip
      refine tv_iconst (v := 0) (pc := 33) dS_passOneOn_33 (by decide) ?_
      exact tv_zret (pc := 34) dS_passOneOn_34 rfl (Nat.le_refl _) (Nat.le_refl _) (by rfl)  (no (fun q => q.2 (by rw [en]; assumption)))
  · skip
    refine tv_iconst (v := 0) (pc := 9) dS_passOneOn_9 (by decide) ?_
    exact tv_zret (pc := 10) dS_passOneOn_10 rfl (Nat.le_refl _) (Nat.le_refl _) (by rfl)  (no (fun q => absurd (tp_b_t q.1) (by rw [(by assumption : tp_b _ = 0)]; decide)))
end
section
/-- a line is emptied -/
def sp_me (i : Nat) (v : tc_S) : tc_S := tc_up (tc_up (tc_up (tc_up v (9 + 0) i (-1)) (9 + 1) i 0) (9 + 2) i 0) (9 + 3) i 0
theorem sp_me_out {i q : Nat} {v : tc_S} (h : q < 9 ∨ 13 ≤ q) : sp_me i v q = v q := by
  unfold sp_me; rw [tc_up_ne (by omega), tc_up_ne (by omega), tc_up_ne (by omega), tc_up_ne (by omega)]
theorem sp_me_at {i j : Nat} {v : tc_S} (hj : j < 4) : pv (sp_me i v) 9 j i = if j = 0 then -1 else 0 := by
  unfold pv sp_me
  have : j = 0 ∨ j = 1 ∨ j = 2 ∨ j = 3 := by omega
  rcases this with rfl | rfl | rfl | rfl
  · rw [tc_up_ne (by omega), tc_up_ne (by omega), tc_up_ne (by omega), tc_up_self]; rfl
  · rw [tc_up_ne (by omega), tc_up_ne (by omega), tc_up_self]; rfl
  · rw [tc_up_ne (by omega), tc_up_self]; rfl
  · rw [tc_up_self]; rfl
theorem sp_me_ne {i z j : Nat} {v : tc_S} (hz : z ≠ i) : pv (sp_me i v) 9 j z = pv v 9 j z := by
  unfold pv sp_me
  have key : ∀ (w : tc_S) (k : Nat) (x : Int32), tc_up w k i x (9 + j) z = w (9 + j) z := fun w k x => by
    by_cases e : 9 + j = k
    · rw [← e, tc_up_at hz]
    · rw [tc_up_ne e]
  rw [key, key, key, key]
theorem sp_I_me {n i : Nat} {v : tc_S} (h : sp_I n v) : sp_I n (sp_me i v) := by
  refine ⟨by rw [sp_me_out (by omega)]; exact h.1, fun z hz => ?_, ⟨fun r hr q hq => by rw [sp_me_out (by omega)]; exact h.2.2.1 r hr q hq, fun r hr => by rw [sp_me_out (by omega)]; exact h.2.2.2 r hr⟩⟩
  by_cases e : z = i
  · subst e; exact tp_line_empty (by rw [sp_me_at (by omega)]; rfl)
  · have hl := h.2.1 z hz
    unfold tp_line at hl ⊢
    rw [sp_me_ne e, sp_me_ne e, sp_me_ne e, sp_me_ne e]; exact hl
theorem sp_p1_out {i j q : Nat} {v : tc_S} (h : q < 9 ∨ 13 ≤ q) (hj : j < 4) : sp_p1 i j v q = v q := by
  unfold sp_p1
  split
  · rw [tc_up_ne (by omega)]
  · rfl
theorem sp_p1_ne {i j z k : Nat} {v : tc_S} (h : z ≠ i ∨ k ≠ j) : pv (sp_p1 i j v) 9 k z = pv v 9 k z := by
  unfold pv sp_p1
  split
  · by_cases e : 9 + k = 9 + j
    · have : k = j := by omega
      subst this
      rw [tc_up_at (by rcases h with h | h; exact h; exact absurd rfl h)]
    · rw [tc_up_ne e]
  · rfl
theorem sp_I_p1 {n i j : Nat} {v : tc_S} (hi : i < 17) (hj : j < 4) (h : sp_I n v) : sp_I n (sp_p1 i j v) := by
  refine ⟨by rw [sp_p1_out (by omega) hj]; exact h.1, fun z hz => ?_, ⟨fun r hr q hq => by rw [sp_p1_out (by omega) hj]; exact h.2.2.1 r hr q hq, fun r hr => by rw [sp_p1_out (by omega) hj]; exact h.2.2.2 r hr⟩⟩
  have hl := h.2.1 z hz
  by_cases e : z = i
  · subst e
    by_cases hq : sp_pq v z j
    · have hj0 : j ≠ 0 := fun q => by subst q; exact tp_rd0 hq.1
      obtain ⟨a, ha, ea⟩ := tp_rd_reg hl hq.1
      have hv : pv (sp_p1 z j v) 9 j z = v (16 + tp_n (pv v 9 j z)) z := by
        unfold pv sp_p1; rw [if_pos hq, tc_up_self]; rfl
      have hreg : ∃ a, a < 6 ∧ pv (sp_p1 z j v) 9 j z = nI a := by
        rw [hv]
        rcases h.2.2.1 (tp_n (pv v 9 j z)) (by rw [ea]; unfold tp_n; rw [nI_clamp (by omega)]; exact ha) z hi with q | q
        · exact absurd q hq.2
        · exact q
      have h0 := sp_p1_ne (v := v) (i := z) (j := j) (z := z) (k := 0) (Or.inr (fun q => hj0 q.symm))
      obtain ⟨l0, l1, l2, l3, l4, l5⟩ := hl
      unfold tp_line
      rw [h0]
      have g : ∀ k, k ≠ j → pv (sp_p1 z j v) 9 k z = pv v 9 k z := fun k hk => sp_p1_ne (Or.inr hk)
      refine ⟨l0, fun q => ?_, fun q => ?_, fun q => ?_, fun q => ?_, fun q => ?_⟩
      · by_cases e1 : j = 1
        · subst e1; exact hreg
        · rw [g 1 (fun q => e1 q.symm)]; exact l1 q
      · by_cases e1 : j = 2
        · subst e1; exact hreg
        · rw [g 2 (fun q => e1 q.symm)]; exact l2 q
      · by_cases e1 : j = 2
        · subst e1
          exfalso
          rcases hq.1 with ⟨k, -⟩ | ⟨-, k⟩ | ⟨k, -⟩
          · cases k
          · rw [q] at k; exact absurd k (by decide)
          · cases k
        · rw [g 2 (fun q => e1 q.symm)]; exact l3 q
      · by_cases e1 : j = 3
        · subst e1; exact hreg
        · rw [g 3 (fun q => e1 q.symm)]; exact l4 q
      · by_cases e1 : j = 1
        · subst e1
          exfalso
          rcases hq.1 with ⟨-, k⟩ | ⟨k, -⟩ | ⟨k, -⟩
          · rw [q] at k; exact absurd k (by decide)
          · cases k
          · cases k
        · rw [g 1 (fun q => e1 q.symm)]; exact l5 q
    · unfold sp_p1; rw [if_neg hq]; exact hl
  · unfold tp_line at hl ⊢
    rw [sp_p1_ne (Or.inl e), sp_p1_ne (Or.inl e), sp_p1_ne (Or.inl e), sp_p1_ne (Or.inl e)]; exact hl
/-- the first half of a round, line by line -/
noncomputable def sp_v3 (i : Nat) (v : tc_S) : tc_S := sp_p1 i 3 (sp_p1 i 2 (sp_p1 i 1 v))
noncomputable def sp_c3 (i : Nat) (x : tc_S × Int32) : Int32 := ((x.2 ||| tp_b (sp_pq x.1 i 1)) ||| tp_b (sp_pq (sp_p1 i 1 x.1) i 2)) ||| tp_b (sp_pq (sp_p1 i 2 (sp_p1 i 1 x.1)) i 3)
noncomputable def sp_l1 (i : Nat) (x : tc_S × Int32) : tc_S × Int32 := if sp_v3 i x.1 (9 + 0) i = 1 ∧ sp_v3 i x.1 (9 + 1) i = sp_v3 i x.1 (9 + 2) i then (sp_me i (sp_v3 i x.1), 1) else (sp_v3 i x.1, sp_c3 i x)
noncomputable def sp_ls : Nat → tc_S × Int32 → tc_S × Int32
  | 0, x => x
  | i + 1, x => sp_l1 i (sp_ls i x)
noncomputable def sp_pass (n : Nat) (u : tc_S) : tc_S × Int32 := sp_ls n (sp_find n u, 0)
theorem sp_I_v3 {n i : Nat} {v : tc_S} (hi : i < 17) (h : sp_I n v) : sp_I n (sp_v3 i v) := sp_I_p1 hi (by omega) (sp_I_p1 hi (by omega) (sp_I_p1 hi (by omega) h))
theorem sp_I_ls {n : Nat} {x : tc_S × Int32} (h : sp_I n x.1) : ∀ i, i ≤ 17 → sp_I n (sp_ls i x).1
  | 0, _ => h
  | i + 1, hi => by
    have a := sp_I_v3 (i := i) (by omega) (sp_I_ls h i (by omega))
    show sp_I n (sp_l1 i (sp_ls i x)).1
    unfold sp_l1
    split
    · exact sp_I_me a
    · exact a
theorem sp_I_pass {n : Nat} (hn : n ≤ 16) {u : tc_S} (h : sp_I n u) : sp_I n (sp_pass n u).1 := sp_I_ls (x := (sp_find n u, 0)) (sp_I_find hn h) n (by omega)
/-- a number that is 0 or 1 -/
def sp_z (x : Int32) : Prop := x = 0 ∨ x = 1
theorem sp_zb (p : Prop) : sp_z (tp_b p) := by
  by_cases h : p
  · exact Or.inr (tp_b_t h)
  · exact Or.inl (tp_b_f h)
theorem sp_zor {x y : Int32} (hx : sp_z x) (hy : sp_z y) : sp_z (x ||| y) := by
  rcases hx with rfl | rfl <;> rcases hy with rfl | rfl <;> unfold sp_z <;> decide
theorem sp_zn {x : Int32} (h : sp_z x) : narrow .boolean (.int x) = .int x := by rcases h with rfl | rfl <;> rfl
theorem sp_zc3 {i : Nat} {x : tc_S × Int32} (h : sp_z x.2) : sp_z (sp_c3 i x) := sp_zor (sp_zor (sp_zor h (sp_zb _)) (sp_zb _)) (sp_zb _)
theorem sp_zls {x : tc_S × Int32} (h : sp_z x.2) : ∀ i, sp_z (sp_ls i x).2
  | 0 => h
  | i + 1 => by
    show sp_z (sp_l1 i (sp_ls i x)).2
    unfold sp_l1
    split
    · exact Or.inr rfl
    · exact sp_zc3 (sp_zls h i)
set_option maxRecDepth 100000 in
set_option maxHeartbeats 4000000 in
theorem c_S_passCopiesOn (l : Launch) (G : tc_G) (u : tc_S) {n : Nat} (hn : n ≤ 16) (hI : sp_I n u) : tc_C tcx G l yS_passCopiesOn wS_passCopiesOn r0S_passCopiesOn 0 0 [.ref (tc_ad G 13), .ref (tc_ad G 7)] u (tc_Ki (sp_pass n u).2 (sp_pass n u).1) := by
  refine tw_ofV (own := "TracedCode$Shortener") [some (.ref (tc_ad G 13)), some (.ref (tc_ad G 7)), none, none, none] (by decide +kernel) rfl (Nat.le_of_ble_eq_true rfl) (by rfl) (fun p e s m args below meth c => ?_)
  have hI0 : ∀ i, i ≤ 17 → sp_I n (sp_ls i (sp_find n u, 0)).1 := fun i hi => sp_I_ls (x := (sp_find n u, 0)) (sp_I_find hn hI) i hi
  have loop : ∀ z : Option Value, tc_V tcx G p l e r0S_passCopiesOn s m args below meth c bS_passCopiesOn 5 tw "TracedCode$Shortener" (some .boolean) [] (MQ below (tc_Qc tcx G (tc_Ki (sp_pass n u).2 (sp_pass n u).1) s.heap.size) args s 0 0 (tc_A tcx G s.heap.size)) 0 0 (sp_ls 0 (sp_find n u, 0)).1 12 [some (.ref (tc_ad G 13)), some (.ref (tc_ad G 7)), some (.int (sp_ls 0 (sp_find n u, 0)).2), some (.int (nI 0)), z] [] := by
    refine tv_down (P := fun i => ∀ z : Option Value, tc_V tcx G p l e r0S_passCopiesOn s m args below meth c bS_passCopiesOn 5 tw "TracedCode$Shortener" (some .boolean) [] (MQ below (tc_Qc tcx G (tc_Ki (sp_pass n u).2 (sp_pass n u).1) s.heap.size) args s 0 0 (tc_A tcx G s.heap.size)) 0 0 (sp_ls i (sp_find n u, 0)).1 12 [some (.ref (tc_ad G 13)), some (.ref (tc_ad G 7)), some (.int (sp_ls i (sp_find n u, 0)).2), some (.int (nI i)), z] []) n ?_ ?_
    · intro z
      have hsz := (hI0 n (by omega)).1
      refine tv_iload_n (pc := 12) dS_passCopiesOn_12 (by rfl) ?_
      refine tv_aload_n (pc := 13) dS_passCopiesOn_13 (by rfl) ?_
      refine tv_callVi (pc := 14) [] tb_7 (by rfl) (c_C_size l G _ code_7) (kVC_size wm_250 ⟨by decide, by decide⟩) (by rfl) (Nat.le_of_ble_eq_true rfl) dS_passCopiesOn_14 ⟨by decide, by decide⟩ ?_
      refine tv_icmp_ge (pc := 17) 83 dS_passCopiesOn_17 (by decide) (fun _ => ?_) (fun h => absurd (by rw [hsz]; exact Int32.le_refl _) h)
      refine tv_iload_n (pc := 83) dS_passCopiesOn_83 (by rfl) ?_
      exact tv_zret (pc := 84) dS_passCopiesOn_84 rfl (Nat.le_refl _) (Nat.le_refl _) (sp_zn (sp_zls (Or.inl rfl) n)) ⟨rfl, rfl⟩
    · intro i hiN ih z
      have hsz := (hI0 i (by omega)).1
      have hi16 : tc_ix (nI i) 16 i := tc_ixN (by omega) (by decide)
      obtain ⟨v, hv⟩ : ∃ v, v = (sp_ls i (sp_find n u, 0)) := ⟨_, rfl⟩
      rw [show sp_ls (i + 1) (sp_find n u, 0) = sp_l1 i v from by rw [hv]; rfl, ← nI_1] at ih
      have hIv : sp_I n v.1 := by rw [hv]; exact hI0 i (by omega)
      rw [← hv] at hsz ⊢
      have h1 := sp_I_p1 (i := i) (j := 1) (by omega) (by omega) hIv
      have h2 := sp_I_p1 (i := i) (j := 2) (by omega) (by omega) h1
      refine tv_iload_n (pc := 12) dS_passCopiesOn_12 (by rfl) ?_
      refine tv_aload_n (pc := 13) dS_passCopiesOn_13 (by rfl) ?_
      refine tv_callVi (pc := 14) [] tb_7 (by rfl) (c_C_size l G _ code_7) (kVC_size wm_250 ⟨by decide, by decide⟩) (by rfl) (Nat.le_of_ble_eq_true rfl) dS_passCopiesOn_14 ⟨by decide, by decide⟩ ?_
      refine tv_icmp_ge (pc := 17) 83 dS_passCopiesOn_17 (by decide) (fun h => absurd h (by rw [hsz]; exact nI_ge (by omega) (by omega))) (fun _ => ?_)
      refine tv_iconst (v := 1) (pc := 20) dS_passCopiesOn_20 (by decide) ?_
      refine tv_istore4 (pc := 21) dS_passCopiesOn_21 (by rfl) ?_
      refine tv_iload (pc := 23) dS_passCopiesOn_23 (by rfl) ?_
      refine tv_iconst (v := 4) (pc := 25) dS_passCopiesOn_25 (by decide) ?_
      refine tv_icmp_ge (pc := 26) 46 dS_passCopiesOn_26 (by decide) (fun h => absurd h (by decide)) (fun _ => ?_)
      refine tv_iload_n (pc := 29) dS_passCopiesOn_29 (by rfl) ?_
      refine tv_aload_n (pc := 30) dS_passCopiesOn_30 (by rfl) ?_
      refine tv_aload_n (pc := 31) dS_passCopiesOn_31 (by rfl) ?_
      refine tv_iload_n (pc := 32) dS_passCopiesOn_32 (by rfl) ?_
      refine tv_iload (pc := 33) dS_passCopiesOn_33 (by rfl) ?_
      refine tv_callVi (pc := 35) [_, _, _] tb_13 (by rfl) (c_S_passOneOn l G v.1 (j := 1) (by omega) (by decide) (by decide) (hIv.2.1 i hiN)) (kVS_passOneOn wm_251 ⟨by decide, by decide⟩) (by rfl) (Nat.le_of_ble_eq_true rfl) dS_passCopiesOn_35 ⟨by decide, by decide⟩ ?_
      refine tv_ior (pc := 38) dS_passCopiesOn_38 ?_
      refine tv_istore2 (pc := 39) dS_passCopiesOn_39 (by rfl) ?_
      refine tv_iinc4 (v := 1) (pc := 40) dS_passCopiesOn_40 (by decide) (by rfl) ?_
      refine tv_goto (pc := 43) 23 dS_passCopiesOn_43 (by decide) ?_
      refine tv_iload (pc := 23) dS_passCopiesOn_23 (by rfl) ?_
      refine tv_iconst (v := 4) (pc := 25) dS_passCopiesOn_25 (by decide) ?_
      refine tv_icmp_ge (pc := 26) 46 dS_passCopiesOn_26 (by decide) (fun h => absurd h (by decide)) (fun _ => ?_)
      refine tv_iload_n (pc := 29) dS_passCopiesOn_29 (by rfl) ?_
      refine tv_aload_n (pc := 30) dS_passCopiesOn_30 (by rfl) ?_
      refine tv_aload_n (pc := 31) dS_passCopiesOn_31 (by rfl) ?_
      refine tv_iload_n (pc := 32) dS_passCopiesOn_32 (by rfl) ?_
      refine tv_iload (pc := 33) dS_passCopiesOn_33 (by rfl) ?_
      refine tv_callVi (pc := 35) [_, _, _] tb_13 (by rfl) (c_S_passOneOn l G (sp_p1 i 1 v.1) (j := 2) (by omega) (by decide) (by decide) (h1.2.1 i hiN)) (kVS_passOneOn wm_251 ⟨by decide, by decide⟩) (by rfl) (Nat.le_of_ble_eq_true rfl) dS_passCopiesOn_35 ⟨by decide, by decide⟩ ?_
      refine tv_ior (pc := 38) dS_passCopiesOn_38 ?_
      refine tv_istore2 (pc := 39) dS_passCopiesOn_39 (by rfl) ?_
      refine tv_iinc4 (v := 1) (pc := 40) dS_passCopiesOn_40 (by decide) (by rfl) ?_
      refine tv_goto (pc := 43) 23 dS_passCopiesOn_43 (by decide) ?_
      refine tv_iload (pc := 23) dS_passCopiesOn_23 (by rfl) ?_
      refine tv_iconst (v := 4) (pc := 25) dS_passCopiesOn_25 (by decide) ?_
      refine tv_icmp_ge (pc := 26) 46 dS_passCopiesOn_26 (by decide) (fun h => absurd h (by decide)) (fun _ => ?_)
      refine tv_iload_n (pc := 29) dS_passCopiesOn_29 (by rfl) ?_
      refine tv_aload_n (pc := 30) dS_passCopiesOn_30 (by rfl) ?_
      refine tv_aload_n (pc := 31) dS_passCopiesOn_31 (by rfl) ?_
      refine tv_iload_n (pc := 32) dS_passCopiesOn_32 (by rfl) ?_
      refine tv_iload (pc := 33) dS_passCopiesOn_33 (by rfl) ?_
      refine tv_callVi (pc := 35) [_, _, _] tb_13 (by rfl) (c_S_passOneOn l G (sp_p1 i 2 (sp_p1 i 1 v.1)) (j := 3) (by omega) (by decide) (by decide) (h2.2.1 i hiN)) (kVS_passOneOn wm_251 ⟨by decide, by decide⟩) (by rfl) (Nat.le_of_ble_eq_true rfl) dS_passCopiesOn_35 ⟨by decide, by decide⟩ ?_
      refine tv_ior (pc := 38) dS_passCopiesOn_38 ?_
      refine tv_istore2 (pc := 39) dS_passCopiesOn_39 (by rfl) ?_
      refine tv_iinc4 (v := 1) (pc := 40) dS_passCopiesOn_40 (by decide) (by rfl) ?_
      refine tv_goto (pc := 43) 23 dS_passCopiesOn_43 (by decide) ?_
      refine tv_iload (pc := 23) dS_passCopiesOn_23 (by rfl) ?_
      refine tv_iconst (v := 4) (pc := 25) dS_passCopiesOn_25 (by decide) ?_
      refine tv_icmp_ge (pc := 26) 46 dS_passCopiesOn_26 (by decide) (fun _ => ?_) (fun h => absurd (by decide) h)
      refine tv_aload_n (pc := 46) dS_passCopiesOn_46 (by rfl) ?_
      refine tv_iload_n (pc := 47) dS_passCopiesOn_47 (by rfl) ?_
      refine tv_callVi (pc := 48) [_] tb_7 (by rfl) (c_C_kind l G (sp_v3 i v.1) code_7 hi16) (kVC_kind wm_270 ⟨by decide, by decide⟩) (by rfl) (Nat.le_of_ble_eq_true rfl) dS_passCopiesOn_48 ⟨by decide, by decide⟩ ?_
      refine tv_iconst (v := 1) (pc := 51) dS_passCopiesOn_51 (by decide) ?_
      refine tv_icmp_ne (pc := 52) 77 dS_passCopiesOn_52 (by decide) (fun h52 => ?_) (fun h52 => ?_)
      · skip
        refine tv_iinc3 (v := 1) (pc := 77) dS_passCopiesOn_77 (by decide) (by rfl) ?_
        refine tv_goto (pc := 80) 12 dS_passCopiesOn_80 (by decide) ?_
        first
        | (rw [show sp_l1 i v = (sp_me i (sp_v3 i v.1), 1) from by unfold sp_l1; rw [if_pos ⟨by assumption, by assumption⟩]] at ih; exact ih _)
        | (rw [show sp_l1 i v = (sp_v3 i v.1, sp_c3 i v) from by unfold sp_l1; rw [if_neg (fun q => by first | exact absurd q.1 (by assumption) | exact absurd q.2 (by assumption))]] at ih; exact ih _)
      · skip
        refine tv_aload_n (pc := 55) dS_passCopiesOn_55 (by rfl) ?_
        refine tv_iload_n (pc := 56) dS_passCopiesOn_56 (by rfl) ?_
        refine tv_iconst (v := 1) (pc := 57) dS_passCopiesOn_57 (by decide) ?_
        refine tv_callVi (pc := 58) [_, _] tb_7 (by rfl) (c_C_number l G (sp_v3 i v.1) code_7 hi16 (j := 1) ⟨by decide, by decide, by decide⟩) (kVC_number wm_261 ⟨by decide, by decide⟩) (by rfl) (Nat.le_of_ble_eq_true rfl) dS_passCopiesOn_58 ⟨by decide, by decide⟩ ?_
        refine tv_aload_n (pc := 61) dS_passCopiesOn_61 (by rfl) ?_
        refine tv_iload_n (pc := 62) dS_passCopiesOn_62 (by rfl) ?_
        refine tv_iconst (v := 2) (pc := 63) dS_passCopiesOn_63 (by decide) ?_
        refine tv_callVi (pc := 64) [_, _] tb_7 (by rfl) (c_C_number l G (sp_v3 i v.1) code_7 hi16 (j := 2) ⟨by decide, by decide, by decide⟩) (kVC_number wm_261 ⟨by decide, by decide⟩) (by rfl) (Nat.le_of_ble_eq_true rfl) dS_passCopiesOn_64 ⟨by decide, by decide⟩ ?_
        refine tv_icmp_ne (pc := 67) 77 dS_passCopiesOn_67 (by decide) (fun h67 => ?_) (fun h67 => ?_)
        · skip
          refine tv_iinc3 (v := 1) (pc := 77) dS_passCopiesOn_77 (by decide) (by rfl) ?_
          refine tv_goto (pc := 80) 12 dS_passCopiesOn_80 (by decide) ?_
          first
          | (rw [show sp_l1 i v = (sp_me i (sp_v3 i v.1), 1) from by unfold sp_l1; rw [if_pos ⟨by assumption, by assumption⟩]] at ih; exact ih _)
          | (rw [show sp_l1 i v = (sp_v3 i v.1, sp_c3 i v) from by unfold sp_l1; rw [if_neg (fun q => by first | exact absurd q.1 (by assumption) | exact absurd q.2 (by assumption))]] at ih; exact ih _)
        · skip
          refine tv_aload_n (pc := 70) dS_passCopiesOn_70 (by rfl) ?_
          refine tv_iload_n (pc := 71) dS_passCopiesOn_71 (by rfl) ?_
          refine tv_callVv (pc := 72) [_] tb_7 (by rfl) (c_C_makeEmpty l G (sp_v3 i v.1) code_7 hi16) (kVC_makeEmpty wm_271 ⟨by decide, by decide⟩) (by rfl) (Nat.le_of_ble_eq_true rfl) dS_passCopiesOn_72 ⟨by decide, by decide⟩ ?_
          refine tv_iconst (v := 1) (pc := 75) dS_passCopiesOn_75 (by decide) ?_
          refine tv_istore2 (pc := 76) dS_passCopiesOn_76 (by rfl) ?_
          refine tv_iinc3 (v := 1) (pc := 77) dS_passCopiesOn_77 (by decide) (by rfl) ?_
          refine tv_goto (pc := 80) 12 dS_passCopiesOn_80 (by decide) ?_
          first
          | (rw [show sp_l1 i v = (sp_me i (sp_v3 i v.1), 1) from by unfold sp_l1; rw [if_pos ⟨by assumption, by assumption⟩]] at ih; exact ih _)
          | (rw [show sp_l1 i v = (sp_v3 i v.1, sp_c3 i v) from by unfold sp_l1; rw [if_neg (fun q => by first | exact absurd q.1 (by assumption) | exact absurd q.2 (by assumption))]] at ih; exact ih _)
  refine tv_aload_n (pc := 0) dS_passCopiesOn_0 (by rfl) ?_
  refine tv_getR (pc := 1) 0 tb_13 (by rfl) uwS_ (by decide) wm_66 (by rfl) dS_passCopiesOn_1 ?_
  refine tv_aload_n (pc := 4) dS_passCopiesOn_4 (by rfl) ?_
  refine tv_callVv (pc := 5) [_] tb_14 (by rfl) (c_P_find l G u hI.1 hn hI.2.1) (kVP_find wm_182 ⟨by decide, by decide⟩) (by rfl) (Nat.le_of_ble_eq_true rfl) dS_passCopiesOn_5 ⟨by decide, by decide⟩ ?_
  refine tv_iconst (v := 0) (pc := 8) dS_passCopiesOn_8 (by decide) ?_
  refine tv_istore2 (pc := 9) dS_passCopiesOn_9 (by rfl) ?_
  refine tv_iconst (v := 0) (pc := 10) dS_passCopiesOn_10 (by decide) ?_
  refine tv_istore3 (pc := 11) dS_passCopiesOn_11 (by rfl) ?_
  exact loop none
end
section
def sl_bh (n : Nat) (u : tc_S) (i : Nat) : Int32 := u 23 (i + 1) ||| u 23 (tp_tg n (pv u 9) i)
noncomputable def sl_bf (n : Nat) (u : tc_S) (i : Nat) : Int32 := (if tp_wI (pv u 9) i = -1 then sl_bh n u i else sl_bh n u i &&& (tp_sh (tp_wI (pv u 9) i) ^^^ (-1))) ||| tp_nd (pv u 9) i
noncomputable def sl_ps (n : Nat) : Nat → tc_S × Int32 → tc_S × Int32
  | 0, x => x
  | k + 1, x => (tc_up (sl_ps n k x).1 23 (n - k - 1) (sl_bf n (sl_ps n k x).1 (n - k - 1)), (sl_ps n k x).2 ||| (if sl_bf n (sl_ps n k x).1 (n - k - 1) = (sl_ps n k x).1 23 (n - k - 1) then 0 else 1))
noncomputable def sl_rp (n : Nat) : Nat → tc_S → tc_S
  | 0, u => u
  | f + 1, u => if (sl_ps n n (u, 0)).2 = 0 then (sl_ps n n (u, 0)).1 else sl_rp n f (sl_ps n n (u, 0)).1
noncomputable def sl_find (n : Nat) (u : tc_S) : tc_S := sl_rp n 1000000 (tc_row u 23 (fun _ => 0) 17)
/-- nothing but the row of live registers has changed -/
def sl_F (u v : tc_S) : Prop := ∀ q, q ≠ 23 → v q = u q
theorem sl_F.tr {u v w : tc_S} (h : sl_F u v) (k : sl_F v w) : sl_F u w := fun q hq => (k q hq).trans (h q hq)
theorem sl_Fpv {u v : tc_S} (h : sl_F u v) {j i : Nat} (hj : j < 4) : pv v 9 j i = pv u 9 j i := by unfold pv; rw [h (9 + j) (by omega)]
theorem sl_FI {n : Nat} {u v : tc_S} (h : sl_F u v) (hI : sp_I n u) : sp_I n v := by
  refine ⟨by rw [h 7 (by omega)]; exact hI.1, fun i hi => ?_, fun r hr q hq => by rw [h (16 + r) (by omega)]; exact hI.2.2.1 r hr q hq, fun r hr => by rw [h 22 (by omega)]; exact hI.2.2.2 r hr⟩
  have hl := hI.2.1 i hi
  unfold tp_line at hl ⊢
  rw [sl_Fpv h (by omega), sl_Fpv h (by omega), sl_Fpv h (by omega), sl_Fpv h (by omega)]; exact hl
theorem sl_F1 {n : Nat} (x : tc_S × Int32) : ∀ k, sl_F x.1 (sl_ps n k x).1
  | 0 => fun _ _ => rfl
  | k + 1 => (sl_F1 x k).tr (fun q hq => tc_up_ne hq)
theorem sl_F2 {n : Nat} : ∀ (f : Nat) (u : tc_S), sl_F u (sl_rp n f u)
  | 0, _ => fun _ _ => rfl
  | f + 1, u => by
    unfold sl_rp
    split
    · exact sl_F1 (u, 0) n
    · exact (sl_F1 (u, 0) n).tr (sl_F2 f _)
theorem sl_findF (n : Nat) (u : tc_S) : sl_F u (sl_find n u) := by
  have h0 : sl_F u (tc_row u 23 (fun _ => 0) 17) := fun q hq => tc_row_ne hq
  exact h0.tr (sl_F2 1000000 _)
set_option maxRecDepth 100000 in
set_option maxHeartbeats 4000000 in
theorem c_S_liveBehind (l : Launch) (G : tc_G) (u : tc_S) {n i : Nat} (hn : n ≤ 16) (hI : sp_I n u) (hi : i < n) : tc_C tcx G l yS_liveBehind wS_liveBehind r0S_liveBehind 0 0 [.ref (tc_ad G 13), .ref (tc_ad G 7), .int (nI i)] u (tc_Ki (sl_bh n u i) u) := by
  refine tw_ofV (own := "TracedCode$Shortener") [some (.ref (tc_ad G 13)), some (.ref (tc_ad G 7)), some (.int (nI i))] (by decide +kernel) rfl (Nat.le_of_ble_eq_true rfl) (by rfl) (fun p e s m args below meth c => ?_)
  have hi16 : tc_ix (nI i) 16 i := tc_ixN (by omega) (by decide)
  have h4 := (hI.2.1 i hi).2.2.2.1
  have hi1 : tc_ix (nI i + 1) 17 (i + 1) := by rw [nI_1]; exact tc_ixN (by omega) (by decide)
  have ht : tc_ix (nI (tp_tg n (pv u 9) i)) 17 (tp_tg n (pv u 9) i) := tc_ixN (by have := tp_tg_le (n := n) (P := pv u 9) hi; omega) (by decide)
  refine tv_aload_n (pc := 0) dS_liveBehind_0 (by rfl) ?_
  refine tv_getR (pc := 1) 1 tb_13 (by rfl) uwS_ (by decide) wm_67 (by rfl) dS_liveBehind_1 ?_
  refine tv_iload_n (pc := 4) dS_liveBehind_4 (by rfl) ?_
  refine tv_iconst (v := 1) (pc := 5) dS_liveBehind_5 (by decide) ?_
  refine tv_iadd (pc := 6) dS_liveBehind_6 ?_
  refine tv_iald (pc := 7) tb_23 hi1 dS_liveBehind_7 ?_
  refine tv_aload_n (pc := 8) dS_liveBehind_8 (by rfl) ?_
  refine tv_getR (pc := 9) 1 tb_13 (by rfl) uwS_ (by decide) wm_67 (by rfl) dS_liveBehind_9 ?_
  refine tv_aload_n (pc := 12) dS_liveBehind_12 (by rfl) ?_
  refine tv_iload_n (pc := 13) dS_liveBehind_13 (by rfl) ?_
  refine tv_callVi (pc := 14) [_] tb_7 (by rfl) (c_C_target l G u code_7 hi16 hI.1 hn h4) (kVC_target wm_295 ⟨by decide, by decide⟩) (by rfl) (Nat.le_of_ble_eq_true rfl) dS_liveBehind_14 ⟨by decide, by decide⟩ ?_
  refine tv_iald (pc := 17) tb_23 ht dS_liveBehind_17 ?_
  refine tv_ior (pc := 18) dS_liveBehind_18 ?_
  exact tv_iret (pc := 19) dS_liveBehind_19 rfl (Nat.le_refl _) (Nat.le_refl _) ⟨rfl, rfl⟩
set_option maxRecDepth 100000 in
set_option maxHeartbeats 4000000 in
theorem c_S_liveBefore (l : Launch) (G : tc_G) (u : tc_S) {n i : Nat} (hn : n ≤ 16) (hI : sp_I n u) (hi : i < n) : tc_C tcx G l yS_liveBefore wS_liveBefore r0S_liveBefore 0 0 [.ref (tc_ad G 13), .ref (tc_ad G 7), .int (nI i)] u (tc_Ki (sl_bf n u i) u) := by
  refine tw_ofV (own := "TracedCode$Shortener") [some (.ref (tc_ad G 13)), some (.ref (tc_ad G 7)), some (.int (nI i)), none, none] (by decide +kernel) rfl (Nat.le_of_ble_eq_true rfl) (by rfl) (fun p e s m args below meth c => ?_)
  have hi16 : tc_ix (nI i) 16 i := tc_ixN (by omega) (by decide)
  refine tv_aload_n (pc := 0) dS_liveBefore_0 (by rfl) ?_
  refine tv_iload_n (pc := 1) dS_liveBefore_1 (by rfl) ?_
  refine tv_callVi (pc := 2) [_] tb_7 (by rfl) (c_C_written l G u code_7 hi16) (kVC_written wm_290 ⟨by decide, by decide⟩) (by rfl) (Nat.le_of_ble_eq_true rfl) dS_liveBefore_2 ⟨by decide, by decide⟩ ?_
  refine tv_istore3 (pc := 5) dS_liveBefore_5 (by rfl) ?_
  refine tv_aload_n (pc := 6) dS_liveBefore_6 (by rfl) ?_
  refine tv_aload_n (pc := 7) dS_liveBefore_7 (by rfl) ?_
  refine tv_iload_n (pc := 8) dS_liveBefore_8 (by rfl) ?_
  refine tv_callVi (pc := 9) [_, _] tb_13 (by rfl) (c_S_liveBehind l G u hn hI hi) (kVS_liveBehind wm_291 ⟨by decide, by decide⟩) (by rfl) (Nat.le_of_ble_eq_true rfl) dS_liveBefore_9 ⟨by decide, by decide⟩ ?_
  refine tv_istore4 (pc := 12) dS_liveBefore_12 (by rfl) ?_
  refine tv_iload_n (pc := 14) dS_liveBefore_14 (by rfl) ?_
  refine tv_iconst (v := (-1)) (pc := 15) dS_liveBefore_15 (by decide) ?_
  refine tv_icmp_eq (pc := 16) 29 dS_liveBefore_16 (by decide) (fun h16 => ?_) (fun h16 => ?_)
  · skip
    refine tv_iload (pc := 29) dS_liveBefore_29 (by rfl) ?_
    refine tv_aload_n (pc := 31) dS_liveBefore_31 (by rfl) ?_
    refine tv_iload_n (pc := 32) dS_liveBefore_32 (by rfl) ?_
    refine tv_callVi (pc := 33) [_] tb_7 (by rfl) (c_C_needed l G u code_7 hi16 (hI.2.1 i hi)) (kVC_needed wm_296 ⟨by decide, by decide⟩) (by rfl) (Nat.le_of_ble_eq_true rfl) dS_liveBefore_33 ⟨by decide, by decide⟩ ?_
    refine tv_ior (pc := 36) dS_liveBefore_36 ?_
    exact tv_iret (pc := 37) dS_liveBefore_37 rfl (Nat.le_refl _) (Nat.le_refl _) ⟨by unfold sl_bf; first | rw [if_pos (by assumption)] | (rw [if_neg (by assumption)]; rfl), rfl⟩
  · skip
    refine tv_iload (pc := 19) dS_liveBefore_19 (by rfl) ?_
    refine tv_iconst (v := 1) (pc := 21) dS_liveBefore_21 (by decide) ?_
    refine tv_iload_n (pc := 22) dS_liveBefore_22 (by rfl) ?_
    refine tv_ishl (pc := 23) dS_liveBefore_23 ?_
    refine tv_iconst (v := (-1)) (pc := 24) dS_liveBefore_24 (by decide) ?_
    refine tv_ixor (pc := 25) dS_liveBefore_25 ?_
    refine tv_iand (pc := 26) dS_liveBefore_26 ?_
    refine tv_istore4 (pc := 27) dS_liveBefore_27 (by rfl) ?_
    refine tv_iload (pc := 29) dS_liveBefore_29 (by rfl) ?_
    refine tv_aload_n (pc := 31) dS_liveBefore_31 (by rfl) ?_
    refine tv_iload_n (pc := 32) dS_liveBefore_32 (by rfl) ?_
    refine tv_callVi (pc := 33) [_] tb_7 (by rfl) (c_C_needed l G u code_7 hi16 (hI.2.1 i hi)) (kVC_needed wm_296 ⟨by decide, by decide⟩) (by rfl) (Nat.le_of_ble_eq_true rfl) dS_liveBefore_33 ⟨by decide, by decide⟩ ?_
    refine tv_ior (pc := 36) dS_liveBefore_36 ?_
    exact tv_iret (pc := 37) dS_liveBefore_37 rfl (Nat.le_refl _) (Nat.le_refl _) ⟨by unfold sl_bf; first | rw [if_pos (by assumption)] | (rw [if_neg (by assumption)]; rfl), rfl⟩
set_option maxRecDepth 100000 in
set_option maxHeartbeats 4000000 in
theorem c_S_findLive (l : Launch) (G : tc_G) (u : tc_S) {n : Nat} (hn : n ≤ 16) (hI : sp_I n u) : tc_C tcx G l yS_findLive wS_findLive r0S_findLive 0 0 [.ref (tc_ad G 13), .ref (tc_ad G 7)] u (tc_Kv (sl_find n u)) := by
  refine tw_ofV (own := "TracedCode$Shortener") [some (.ref (tc_ad G 13)), some (.ref (tc_ad G 7)), none, none, none, none] (by decide +kernel) rfl (Nat.le_of_ble_eq_true rfl) (by rfl) (fun p e s m args below meth c => ?_)
  obtain ⟨w, hw⟩ : ∃ w, w = sl_find n u := ⟨_, rfl⟩
  rw [← hw]
  have pass : ∀ (t : Nat) (v : tc_S), sp_I n v → (∀ z : Option Value, tc_V tcx G p l e r0S_findLive s m args below meth c bS_findLive 6 tw "TracedCode$Shortener" none [] (MQ below (tc_Qc tcx G (tc_Kv w) s.heap.size) args s 0 0 (tc_A tcx G s.heap.size)) 0 0 (sl_ps n n (v, 0)).1 81 [some (.ref (tc_ad G 13)), some (.ref (tc_ad G 7)), some (.int (sl_ps n n (v, 0)).2), some (.int (nI t)), some (.int (nI (n - n) - 1)), z] []) → ∀ z : Option Value, tc_V tcx G p l e r0S_findLive s m args below meth c bS_findLive 6 tw "TracedCode$Shortener" none [] (MQ below (tc_Qc tcx G (tc_Kv w) s.heap.size) args s 0 0 (tc_A tcx G s.heap.size)) 0 0 (sl_ps n 0 (v, 0)).1 32 [some (.ref (tc_ad G 13)), some (.ref (tc_ad G 7)), some (.int (sl_ps n 0 (v, 0)).2), some (.int (nI t)), some (.int (nI (n - 0) - 1)), z] [] := by
    intro t v hv hend
    refine tv_down (P := fun k => ∀ z : Option Value, tc_V tcx G p l e r0S_findLive s m args below meth c bS_findLive 6 tw "TracedCode$Shortener" none [] (MQ below (tc_Qc tcx G (tc_Kv w) s.heap.size) args s 0 0 (tc_A tcx G s.heap.size)) 0 0 (sl_ps n k (v, 0)).1 32 [some (.ref (tc_ad G 13)), some (.ref (tc_ad G 7)), some (.int (sl_ps n k (v, 0)).2), some (.int (nI t)), some (.int (nI (n - k) - 1)), z] []) n ?_ ?_
    · intro z
      refine tv_iload (pc := 32) dS_findLive_32 (by rfl) ?_
      refine tv_if_lt (pc := 34) 81 dS_findLive_34 (by decide) (fun _ => ?_) (fun h => absurd (by rw [Nat.sub_self]; decide) h)
      exact hend z
    · intro k hk ih z
      have hIk := sl_FI (sl_F1 (n := n) (v, 0) k) hv
      obtain ⟨v0, hv0⟩ : ∃ v0, v0 = (sl_ps n k (v, 0)) := ⟨_, rfl⟩
      obtain ⟨i, hi⟩ : ∃ i, i = n - k - 1 := ⟨_, rfl⟩
      have hin : i < n := by omega
      have ei : nI (n - k) - 1 = nI i := by rw [show n - k = i + 1 by omega, nI_pred]
      have e2 : nI (n - (k + 1)) - 1 = nI i + (-1) := by rw [show n - (k + 1) = i by omega, Int32.sub_eq_add_neg]
      rw [show sl_ps n (k + 1) (v, 0) = (tc_up v0.1 23 i (sl_bf n v0.1 i), v0.2 ||| (if sl_bf n v0.1 i = v0.1 23 i then 0 else 1)) from by rw [hv0, hi]; rfl, e2] at ih
      rw [← hv0] at hIk ⊢
      rw [ei]
      have hi17 : tc_ix (nI i) 17 i := tc_ixN (by omega) (by decide)
      refine tv_iload (pc := 32) dS_findLive_32 (by rfl) ?_
      refine tv_if_lt (pc := 34) 81 dS_findLive_34 (by decide) (fun h => absurd h (nI_pos (by omega))) (fun _ => ?_)
      refine tv_aload_n (pc := 37) dS_findLive_37 (by rfl) ?_
      refine tv_aload_n (pc := 38) dS_findLive_38 (by rfl) ?_
      refine tv_iload (pc := 39) dS_findLive_39 (by rfl) ?_
      refine tv_callVi (pc := 41) [_, _] tb_13 (by rfl) (c_S_liveBefore l G v0.1 hn hIk hin) (kVS_liveBefore wm_286 ⟨by decide, by decide⟩) (by rfl) (Nat.le_of_ble_eq_true rfl) dS_findLive_41 ⟨by decide, by decide⟩ ?_
      refine tv_istore5 (pc := 44) dS_findLive_44 (by rfl) ?_
      refine tv_iload_n (pc := 46) dS_findLive_46 (by rfl) ?_
      refine tv_iload (pc := 47) dS_findLive_47 (by rfl) ?_
      refine tv_aload_n (pc := 49) dS_findLive_49 (by rfl) ?_
      refine tv_getR (pc := 50) 1 tb_13 (by rfl) uwS_ (by decide) wm_67 (by rfl) dS_findLive_50 ?_
      refine tv_iload (pc := 53) dS_findLive_53 (by rfl) ?_
      refine tv_iald (pc := 55) tb_23 hi17 dS_findLive_55 ?_
      refine tv_icmp_eq (pc := 56) 63 dS_findLive_56 (by decide) (fun h56 => ?_) (fun h56 => ?_)
      · skip
        refine tv_iconst (v := 0) (pc := 63) dS_findLive_63 (by decide) ?_
        refine tv_ior (pc := 64) dS_findLive_64 ?_
        refine tv_istore2 (pc := 65) dS_findLive_65 (by rfl) ?_
        refine tv_aload_n (pc := 66) dS_findLive_66 (by rfl) ?_
        refine tv_getR (pc := 67) 1 tb_13 (by rfl) uwS_ (by decide) wm_67 (by rfl) dS_findLive_67 ?_
        refine tv_iload (pc := 70) dS_findLive_70 (by rfl) ?_
        refine tv_iload (pc := 72) dS_findLive_72 (by rfl) ?_
        refine tv_iast (pc := 74) tb_23 hi17 dS_findLive_74 ?_
        refine tv_iinc4 (v := (-1)) (pc := 75) dS_findLive_75 (by decide) (by rfl) ?_
        refine tv_goto (pc := 78) 32 dS_findLive_78 (by decide) ?_
        first
        | (rw [if_pos (by assumption)] at ih; exact ih _)
        | (rw [if_neg (by assumption)] at ih; exact ih _)
      · skip
        refine tv_iconst (v := 1) (pc := 59) dS_findLive_59 (by decide) ?_
        refine tv_goto (pc := 60) 64 dS_findLive_60 (by decide) ?_
        refine tv_ior (pc := 64) dS_findLive_64 ?_
        refine tv_istore2 (pc := 65) dS_findLive_65 (by rfl) ?_
        refine tv_aload_n (pc := 66) dS_findLive_66 (by rfl) ?_
        refine tv_getR (pc := 67) 1 tb_13 (by rfl) uwS_ (by decide) wm_67 (by rfl) dS_findLive_67 ?_
        refine tv_iload (pc := 70) dS_findLive_70 (by rfl) ?_
        refine tv_iload (pc := 72) dS_findLive_72 (by rfl) ?_
        refine tv_iast (pc := 74) tb_23 hi17 dS_findLive_74 ?_
        refine tv_iinc4 (v := (-1)) (pc := 75) dS_findLive_75 (by decide) (by rfl) ?_
        refine tv_goto (pc := 78) 32 dS_findLive_78 (by decide) ?_
        first
        | (rw [if_pos (by assumption)] at ih; exact ih _)
        | (rw [if_neg (by assumption)] at ih; exact ih _)
  have reps : ∀ d t : Nat, t + d = 1000000 → ∀ (v : tc_S) (c0 : Int32) (z y : Option Value), sp_I n v → (if c0 = 0 then v else sl_rp n d v) = w → tc_V tcx G p l e r0S_findLive s m args below meth c bS_findLive 6 tw "TracedCode$Shortener" none [] (MQ below (tc_Qc tcx G (tc_Kv w) s.heap.size) args s 0 0 (tc_A tcx G s.heap.size)) 0 0 v 12 [some (.ref (tc_ad G 13)), some (.ref (tc_ad G 7)), some (.int c0), some (.int (nI t)), z, y] [] := by
    intro d
    induction d with
    | zero =>
      intro t ht v c0 z y hv he
      have e : t = 1000000 := by omega
      refine tv_iload_n (pc := 12) dS_findLive_12 (by rfl) ?_
      refine tv_if_eq (pc := 13) 87 dS_findLive_13 (by decide) (fun h13 => ?_) (fun h13 => ?_)
      · skip
        exact tv_vret (pc := 87) dS_findLive_87 rfl (Nat.le_refl _) (Nat.le_refl _) ⟨rfl, by first | (rw [if_pos (by assumption)] at he; exact he) | (rw [if_neg (by assumption)] at he; exact he)⟩
      · skip
        refine tv_iload_n (pc := 16) dS_findLive_16 (by rfl) ?_
        refine tv_ldc (pc := 17)  wm_177 dS_findLive_17 ?_
        refine tv_icmp_ge (pc := 19) 87 dS_findLive_19 (by decide) (fun _ => ?_) (fun h => absurd (by rw [e]; decide) h)
        exact tv_vret (pc := 87) dS_findLive_87 rfl (Nat.le_refl _) (Nat.le_refl _) ⟨rfl, by first | (rw [if_pos (by assumption)] at he; exact he) | (rw [if_neg (by assumption)] at he; exact he)⟩
    | succ d ihd =>
      intro t ht v c0 z y hv he
      refine tv_iload_n (pc := 12) dS_findLive_12 (by rfl) ?_
      refine tv_if_eq (pc := 13) 87 dS_findLive_13 (by decide) (fun h13 => ?_) (fun h13 => ?_)
      · skip
        exact tv_vret (pc := 87) dS_findLive_87 rfl (Nat.le_refl _) (Nat.le_refl _) ⟨rfl, by rw [if_pos (by assumption)] at he; exact he⟩
      · skip
        refine tv_iload_n (pc := 16) dS_findLive_16 (by rfl) ?_
        refine tv_ldc (pc := 17)  wm_177 dS_findLive_17 ?_
        refine tv_icmp_ge (pc := 19) 87 dS_findLive_19 (by decide) (fun h => absurd h (nI_mil (by omega))) (fun _ => ?_)
        refine tv_iconst (v := 0) (pc := 22) dS_findLive_22 (by decide) ?_
        refine tv_istore2 (pc := 23) dS_findLive_23 (by rfl) ?_
        refine tv_aload_n (pc := 24) dS_findLive_24 (by rfl) ?_
        refine tv_callVi (pc := 25) [] tb_7 (by rfl) (c_C_size l G v code_7) (kVC_size wm_250 ⟨by decide, by decide⟩) (by rfl) (Nat.le_of_ble_eq_true rfl) dS_findLive_25 ⟨by decide, by decide⟩ ?_
        refine tv_iconst (v := 1) (pc := 28) dS_findLive_28 (by decide) ?_
        refine tv_isub (pc := 29) dS_findLive_29 ?_
        refine tv_istore4 (pc := 30) dS_findLive_30 (by rfl) ?_
        rw [hv.1]
        refine pass t v hv (fun y => ?_) _
        have ih := ihd (t + 1) (by omega) (sl_ps n n (v, 0)).1 (sl_ps n n (v, 0)).2 (some (.int (nI (n - n) - 1))) y (sl_FI (sl_F1 (v, 0) n) hv) (by rw [if_neg (by assumption)] at he; exact he)
        rw [← nI_1] at ih
        refine tv_iinc3 (v := 1) (pc := 81) dS_findLive_81 (by decide) (by rfl) ?_
        refine tv_goto (pc := 84) 12 dS_findLive_84 (by decide) ?_
        exact ih
  have h0 : sl_F u (tc_row u 23 (fun _ => 0) 17) := fun q hq => tc_row_ne hq
  refine tv_aload_n (pc := 0) dS_findLive_0 (by rfl) ?_
  refine tv_getR (pc := 1) 1 tb_13 (by rfl) uwS_ (by decide) wm_67 (by rfl) dS_findLive_1 ?_
  refine tv_iconst (v := 0) (pc := 4) dS_findLive_4 (by decide) ?_
  refine tv_callSv (pc := 5) [_, _] (c_A_fill l G u tb_23 (by decide) 0) (kSA_fill wm_283 ⟨by decide, by decide⟩) (by rfl) (Nat.le_of_ble_eq_true rfl) dS_findLive_5 ⟨by decide, by decide⟩ ?_
  refine tv_iconst (v := 1) (pc := 8) dS_findLive_8 (by decide) ?_
  refine tv_istore2 (pc := 9) dS_findLive_9 (by rfl) ?_
  refine tv_iconst (v := 0) (pc := 10) dS_findLive_10 (by decide) ?_
  refine tv_istore3 (pc := 11) dS_findLive_11 (by rfl) ?_
  exact reps 1000000 0 (by omega) _ 1 none none (sl_FI h0 hI) (by rw [if_neg (by decide)]; exact hw.symm)
def so_q (n : Nat) (u : tc_S) (i : Nat) : Prop := ¬ tp_wI (pv u 9) i = -1 ∧ (sl_bh n u i >>> (tp_wI (pv u 9) i &&& 31)) &&& 1 = 0
noncomputable def so_l1 (n i : Nat) (x : tc_S × Int32) : tc_S × Int32 := @ite _ (so_q n x.1 i) (Classical.propDecidable _) (sp_me i x.1, 1) x
noncomputable def so_ls (n : Nat) : Nat → tc_S × Int32 → tc_S × Int32
  | 0, x => x
  | i + 1, x => so_l1 n i (so_ls n i x)
noncomputable def so_leave (n : Nat) (u : tc_S) : tc_S × Int32 := so_ls n n (sl_find n u, 0)
theorem so_I {n : Nat} {x : tc_S × Int32} (h : sp_I n x.1) : ∀ i, sp_I n (so_ls n i x).1
  | 0 => h
  | i + 1 => by
    show sp_I n (so_l1 n i (so_ls n i x)).1
    unfold so_l1
    split
    · exact sp_I_me (so_I h i)
    · exact so_I h i
theorem so_z {n : Nat} {x : tc_S × Int32} (h : sp_z x.2) : ∀ i, sp_z (so_ls n i x).2
  | 0 => h
  | i + 1 => by
    show sp_z (so_l1 n i (so_ls n i x)).2
    unfold so_l1
    split
    · exact Or.inr rfl
    · exact so_z h i
theorem so_I_leave {n : Nat} {u : tc_S} (h : sp_I n u) : sp_I n (so_leave n u).1 := so_I (x := (sl_find n u, 0)) (sl_FI (sl_findF n u) h) n
set_option maxRecDepth 100000 in
set_option maxHeartbeats 4000000 in
theorem c_S_leaveOutDead (l : Launch) (G : tc_G) (u : tc_S) {n : Nat} (hn : n ≤ 16) (hI : sp_I n u) : tc_C tcx G l yS_leaveOutDead wS_leaveOutDead r0S_leaveOutDead 0 0 [.ref (tc_ad G 13), .ref (tc_ad G 7)] u (tc_Ki (so_leave n u).2 (so_leave n u).1) := by
  refine tw_ofV (own := "TracedCode$Shortener") [some (.ref (tc_ad G 13)), some (.ref (tc_ad G 7)), none, none, none] (by decide +kernel) rfl (Nat.le_of_ble_eq_true rfl) (by rfl) (fun p e s m args below meth c => ?_)
  have hI0 : ∀ i, sp_I n (so_ls n i (sl_find n u, 0)).1 := fun i => so_I (x := (sl_find n u, 0)) (sl_FI (sl_findF n u) hI) i
  have loop : ∀ z : Option Value, tc_V tcx G p l e r0S_leaveOutDead s m args below meth c bS_leaveOutDead 5 tw "TracedCode$Shortener" (some .boolean) [] (MQ below (tc_Qc tcx G (tc_Ki (so_leave n u).2 (so_leave n u).1) s.heap.size) args s 0 0 (tc_A tcx G s.heap.size)) 0 0 (so_ls n 0 (sl_find n u, 0)).1 9 [some (.ref (tc_ad G 13)), some (.ref (tc_ad G 7)), some (.int (so_ls n 0 (sl_find n u, 0)).2), some (.int (nI 0)), z] [] := by
    refine tv_down (P := fun i => ∀ z : Option Value, tc_V tcx G p l e r0S_leaveOutDead s m args below meth c bS_leaveOutDead 5 tw "TracedCode$Shortener" (some .boolean) [] (MQ below (tc_Qc tcx G (tc_Ki (so_leave n u).2 (so_leave n u).1) s.heap.size) args s 0 0 (tc_A tcx G s.heap.size)) 0 0 (so_ls n i (sl_find n u, 0)).1 9 [some (.ref (tc_ad G 13)), some (.ref (tc_ad G 7)), some (.int (so_ls n i (sl_find n u, 0)).2), some (.int (nI i)), z] []) n ?_ ?_
    · intro z
      have hsz := (hI0 n).1
      refine tv_iload_n (pc := 9) dS_leaveOutDead_9 (by rfl) ?_
      refine tv_aload_n (pc := 10) dS_leaveOutDead_10 (by rfl) ?_
      refine tv_callVi (pc := 11) [] tb_7 (by rfl) (c_C_size l G _ code_7) (kVC_size wm_250 ⟨by decide, by decide⟩) (by rfl) (Nat.le_of_ble_eq_true rfl) dS_leaveOutDead_11 ⟨by decide, by decide⟩ ?_
      refine tv_icmp_ge (pc := 14) 57 dS_leaveOutDead_14 (by decide) (fun _ => ?_) (fun h => absurd (by rw [hsz]; exact Int32.le_refl _) h)
      refine tv_iload_n (pc := 57) dS_leaveOutDead_57 (by rfl) ?_
      exact tv_zret (pc := 58) dS_leaveOutDead_58 rfl (Nat.le_refl _) (Nat.le_refl _) (sp_zn (so_z (Or.inl rfl) n)) ⟨rfl, rfl⟩
    · intro i hiN ih z
      have hIv := hI0 i
      have hi16 : tc_ix (nI i) 16 i := tc_ixN (by omega) (by decide)
      obtain ⟨v, hv⟩ : ∃ v, v = (so_ls n i (sl_find n u, 0)) := ⟨_, rfl⟩
      rw [show so_ls n (i + 1) (sl_find n u, 0) = so_l1 n i v from by rw [hv]; rfl, ← nI_1] at ih
      rw [← hv] at hIv ⊢
      have hsz := hIv.1
      refine tv_iload_n (pc := 9) dS_leaveOutDead_9 (by rfl) ?_
      refine tv_aload_n (pc := 10) dS_leaveOutDead_10 (by rfl) ?_
      refine tv_callVi (pc := 11) [] tb_7 (by rfl) (c_C_size l G _ code_7) (kVC_size wm_250 ⟨by decide, by decide⟩) (by rfl) (Nat.le_of_ble_eq_true rfl) dS_leaveOutDead_11 ⟨by decide, by decide⟩ ?_
      refine tv_icmp_ge (pc := 14) 57 dS_leaveOutDead_14 (by decide) (fun h => absurd h (by rw [hsz]; exact nI_ge (by omega) (by omega))) (fun _ => ?_)
      refine tv_aload_n (pc := 17) dS_leaveOutDead_17 (by rfl) ?_
      refine tv_iload_n (pc := 18) dS_leaveOutDead_18 (by rfl) ?_
      refine tv_callVi (pc := 19) [_] tb_7 (by rfl) (c_C_written l G v.1 code_7 hi16) (kVC_written wm_290 ⟨by decide, by decide⟩) (by rfl) (Nat.le_of_ble_eq_true rfl) dS_leaveOutDead_19 ⟨by decide, by decide⟩ ?_
      refine tv_istore4 (pc := 22) dS_leaveOutDead_22 (by rfl) ?_
      refine tv_iload (pc := 24) dS_leaveOutDead_24 (by rfl) ?_
      refine tv_iconst (v := (-1)) (pc := 26) dS_leaveOutDead_26 (by decide) ?_
      refine tv_icmp_eq (pc := 27) 51 dS_leaveOutDead_27 (by decide) (fun h27 => ?_) (fun h27 => ?_)
      · skip
        refine tv_iinc3 (v := 1) (pc := 51) dS_leaveOutDead_51 (by decide) (by rfl) ?_
        refine tv_goto (pc := 54) 9 dS_leaveOutDead_54 (by decide) ?_
        first
        | (rw [show so_l1 n i v = (sp_me i v.1, 1) from by unfold so_l1; rw [if_pos ⟨by assumption, by assumption⟩]] at ih; exact ih _)
        | (rw [show so_l1 n i v = v from by unfold so_l1; rw [if_neg (fun q => by first | exact absurd q.1 (fun z => z (by assumption)) | exact absurd q.2 (by assumption))]] at ih; exact ih _)
      · skip
        refine tv_aload_n (pc := 30) dS_leaveOutDead_30 (by rfl) ?_
        refine tv_aload_n (pc := 31) dS_leaveOutDead_31 (by rfl) ?_
        refine tv_iload_n (pc := 32) dS_leaveOutDead_32 (by rfl) ?_
        refine tv_callVi (pc := 33) [_, _] tb_13 (by rfl) (c_S_liveBehind l G v.1 hn hIv hiN) (kVS_liveBehind wm_291 ⟨by decide, by decide⟩) (by rfl) (Nat.le_of_ble_eq_true rfl) dS_leaveOutDead_33 ⟨by decide, by decide⟩ ?_
        refine tv_iload (pc := 36) dS_leaveOutDead_36 (by rfl) ?_
        refine tv_ishr (pc := 38) dS_leaveOutDead_38 ?_
        refine tv_iconst (v := 1) (pc := 39) dS_leaveOutDead_39 (by decide) ?_
        refine tv_iand (pc := 40) dS_leaveOutDead_40 ?_
        refine tv_if_ne (pc := 41) 51 dS_leaveOutDead_41 (by decide) (fun h41 => ?_) (fun h41 => ?_)
        · skip
          refine tv_iinc3 (v := 1) (pc := 51) dS_leaveOutDead_51 (by decide) (by rfl) ?_
          refine tv_goto (pc := 54) 9 dS_leaveOutDead_54 (by decide) ?_
          first
          | (rw [show so_l1 n i v = (sp_me i v.1, 1) from by unfold so_l1; rw [if_pos ⟨by assumption, by assumption⟩]] at ih; exact ih _)
          | (rw [show so_l1 n i v = v from by unfold so_l1; rw [if_neg (fun q => by first | exact absurd q.1 (fun z => z (by assumption)) | exact absurd q.2 (by assumption))]] at ih; exact ih _)
        · skip
          refine tv_aload_n (pc := 44) dS_leaveOutDead_44 (by rfl) ?_
          refine tv_iload_n (pc := 45) dS_leaveOutDead_45 (by rfl) ?_
          refine tv_callVv (pc := 46) [_] tb_7 (by rfl) (c_C_makeEmpty l G v.1 code_7 hi16) (kVC_makeEmpty wm_271 ⟨by decide, by decide⟩) (by rfl) (Nat.le_of_ble_eq_true rfl) dS_leaveOutDead_46 ⟨by decide, by decide⟩ ?_
          refine tv_iconst (v := 1) (pc := 49) dS_leaveOutDead_49 (by decide) ?_
          refine tv_istore2 (pc := 50) dS_leaveOutDead_50 (by rfl) ?_
          refine tv_iinc3 (v := 1) (pc := 51) dS_leaveOutDead_51 (by decide) (by rfl) ?_
          refine tv_goto (pc := 54) 9 dS_leaveOutDead_54 (by decide) ?_
          first
          | (rw [show so_l1 n i v = (sp_me i v.1, 1) from by unfold so_l1; rw [if_pos ⟨by assumption, by assumption⟩]] at ih; exact ih _)
          | (rw [show so_l1 n i v = v from by unfold so_l1; rw [if_neg (fun q => by first | exact absurd q.1 (fun z => z (by assumption)) | exact absurd q.2 (by assumption))]] at ih; exact ih _)
  refine tv_aload_n (pc := 0) dS_leaveOutDead_0 (by rfl) ?_
  refine tv_aload_n (pc := 1) dS_leaveOutDead_1 (by rfl) ?_
  refine tv_callVv (pc := 2) [_] tb_13 (by rfl) (c_S_findLive l G u hn hI) (kVS_findLive wm_279 ⟨by decide, by decide⟩) (by rfl) (Nat.le_of_ble_eq_true rfl) dS_leaveOutDead_2 ⟨by decide, by decide⟩ ?_
  refine tv_iconst (v := 0) (pc := 5) dS_leaveOutDead_5 (by decide) ?_
  refine tv_istore2 (pc := 6) dS_leaveOutDead_6 (by rfl) ?_
  refine tv_iconst (v := 0) (pc := 7) dS_leaveOutDead_7 (by decide) ?_
  refine tv_istore3 (pc := 8) dS_leaveOutDead_8 (by rfl) ?_
  exact loop none
noncomputable def sr_1 (n : Nat) (u : tc_S) : tc_S := (so_leave n (sp_pass n u).1).1
def sr_c (n : Nat) (u : tc_S) : Prop := ¬ (sp_pass n u).2 = 0 ∨ ¬ (so_leave n (sp_pass n u).1).2 = 0
noncomputable def sr (n : Nat) : Nat → Nat → tc_S → Nat × tc_S
  | 0, r, u => (r, u)
  | f + 1, r, u => @ite _ (sr_c n u) (Classical.propDecidable _) (sr n f (r + 1) (sr_1 n u)) (r, sr_1 n u)
theorem sr_I {n : Nat} (hn : n ≤ 16) {u : tc_S} (h : sp_I n u) : sp_I n (sr_1 n u) := so_I_leave (sp_I_pass hn h)
set_option maxRecDepth 100000 in
set_option maxHeartbeats 4000000 in
theorem c_S_changingRounds (l : Launch) (G : tc_G) (u : tc_S) {n : Nat} (hn : n ≤ 16) (hI : sp_I n u) : tc_C tcx G l yS_changingRounds wS_changingRounds r0S_changingRounds 0 0 [.ref (tc_ad G 13), .ref (tc_ad G 7)] u (tc_Ki (nI (sr n 1000000 0 u).1) (sr n 1000000 0 u).2) := by
  refine tw_ofV (own := "TracedCode$Shortener") [some (.ref (tc_ad G 13)), some (.ref (tc_ad G 7)), none, none, none, none] (by decide +kernel) rfl (Nat.le_of_ble_eq_true rfl) (by rfl) (fun p e s m args below meth c => ?_)
  obtain ⟨w, hw⟩ : ∃ w, w = sr n 1000000 0 u := ⟨_, rfl⟩
  rw [← hw]
  have fin : ∀ (t : Nat) (v : tc_S) (z y : Option Value), (t, v) = w → tc_V tcx G p l e r0S_changingRounds s m args below meth c bS_changingRounds 6 tw "TracedCode$Shortener" (some .int) [] (MQ below (tc_Qc tcx G (tc_Ki (nI w.1) w.2) s.heap.size) args s 0 0 (tc_A tcx G s.heap.size)) 0 0 v 4 [some (.ref (tc_ad G 13)), some (.ref (tc_ad G 7)), some (.int (nI t)), some (.int 0), z, y] [] := by
    intro t v z y he
    refine tv_iload_n (pc := 4) dS_changingRounds_4 (by rfl) ?_
    refine tv_if_eq (pc := 5) 54 dS_changingRounds_5 (by decide) (fun _ => ?_) (fun h => absurd rfl h)
    refine tv_iload_n (pc := 54) dS_changingRounds_54 (by rfl) ?_
    exact tv_iret (pc := 55) dS_changingRounds_55 rfl (Nat.le_refl _) (Nat.le_refl _) ⟨by rw [← he], by rw [← he]⟩
  have reps : ∀ d t : Nat, t + d = 1000000 → ∀ (v : tc_S) (z y : Option Value), sp_I n v → sr n d t v = w → tc_V tcx G p l e r0S_changingRounds s m args below meth c bS_changingRounds 6 tw "TracedCode$Shortener" (some .int) [] (MQ below (tc_Qc tcx G (tc_Ki (nI w.1) w.2) s.heap.size) args s 0 0 (tc_A tcx G s.heap.size)) 0 0 v 4 [some (.ref (tc_ad G 13)), some (.ref (tc_ad G 7)), some (.int (nI t)), some (.int 1), z, y] [] := by
    intro d
    induction d with
    | zero =>
      intro t ht v z y hv he
      have e : t = 1000000 := by omega
      refine tv_iload_n (pc := 4) dS_changingRounds_4 (by rfl) ?_
      refine tv_if_eq (pc := 5) 54 dS_changingRounds_5 (by decide) (fun h => absurd h (by decide)) (fun _ => ?_)
      refine tv_iload_n (pc := 8) dS_changingRounds_8 (by rfl) ?_
      refine tv_ldc (pc := 9)  wm_177 dS_changingRounds_9 ?_
      refine tv_icmp_ge (pc := 11) 54 dS_changingRounds_11 (by decide) (fun _ => ?_) (fun h => absurd (by rw [e]; decide) h)
      refine tv_iload_n (pc := 54) dS_changingRounds_54 (by rfl) ?_
      exact tv_iret (pc := 55) dS_changingRounds_55 rfl (Nat.le_refl _) (Nat.le_refl _) ⟨by rw [← he]; rfl, by rw [← he]; rfl⟩
    | succ d ihd =>
      intro t ht v z y hv he
      unfold sr at he
      refine tv_iload_n (pc := 4) dS_changingRounds_4 (by rfl) ?_
      refine tv_if_eq (pc := 5) 54 dS_changingRounds_5 (by decide) (fun h => absurd h (by decide)) (fun _ => ?_)
      refine tv_iload_n (pc := 8) dS_changingRounds_8 (by rfl) ?_
      refine tv_ldc (pc := 9)  wm_177 dS_changingRounds_9 ?_
      refine tv_icmp_ge (pc := 11) 54 dS_changingRounds_11 (by decide) (fun h => absurd h (nI_mil (by omega))) (fun _ => ?_)
      refine tv_aload_n (pc := 14) dS_changingRounds_14 (by rfl) ?_
      refine tv_aload_n (pc := 15) dS_changingRounds_15 (by rfl) ?_
      refine tv_callVi (pc := 16) [_] tb_13 (by rfl) (c_S_passCopiesOn l G v hn hv) (kVS_passCopiesOn wm_178 ⟨by decide, by decide⟩) (by rfl) (Nat.le_of_ble_eq_true rfl) dS_changingRounds_16 ⟨by decide, by decide⟩ ?_
      refine tv_istore4 (pc := 19) dS_changingRounds_19 (by rfl) ?_
      refine tv_aload_n (pc := 21) dS_changingRounds_21 (by rfl) ?_
      refine tv_aload_n (pc := 22) dS_changingRounds_22 (by rfl) ?_
      refine tv_callVi (pc := 23) [_] tb_13 (by rfl) (c_S_leaveOutDead l G _ hn (sp_I_pass hn hv)) (kVS_leaveOutDead wm_275 ⟨by decide, by decide⟩) (by rfl) (Nat.le_of_ble_eq_true rfl) dS_changingRounds_23 ⟨by decide, by decide⟩ ?_
      refine tv_istore5 (pc := 26) dS_changingRounds_26 (by rfl) ?_
      refine tv_iload (pc := 28) dS_changingRounds_28 (by rfl) ?_
      refine tv_if_ne (pc := 30) 38 dS_changingRounds_30 (by decide) (fun h30 => ?_) (fun h30 => ?_)
      · skip
        refine tv_iconst (v := 1) (pc := 38) dS_changingRounds_38 (by decide) ?_
        refine tv_goto (pc := 39) 43 dS_changingRounds_39 (by decide) ?_
        refine tv_istore3 (pc := 43) dS_changingRounds_43 (by rfl) ?_
        refine tv_iload_n (pc := 44) dS_changingRounds_44 (by rfl) ?_
        refine tv_if_eq (pc := 45) 51 dS_changingRounds_45 (by decide) (fun h => absurd h (by decide)) (fun _ => ?_)
        refine tv_iinc2 (v := 1) (pc := 48) dS_changingRounds_48 (by decide) (by rfl) ?_
        refine tv_goto (pc := 51) 4 dS_changingRounds_51 (by decide) ?_
        first
        | (have hc : sr_c n v := by first | exact Or.inl (by assumption) | exact Or.inr (by assumption)
           rw [if_pos hc] at he
           have ih := ihd (t + 1) (by omega) (sr_1 n v) (some (.int (sp_pass n v).2)) (some (.int (so_leave n (sp_pass n v).1).2)) (sr_I hn hv) he
           rw [← nI_1] at ih
           exact ih)
        | (have hc : ¬ sr_c n v := fun q => by rcases q with q | q <;> exact q (by assumption)
           rw [if_neg hc] at he
           exact fin t (sr_1 n v) _ _ he)
      · skip
        refine tv_iload (pc := 33) dS_changingRounds_33 (by rfl) ?_
        refine tv_if_eq (pc := 35) 42 dS_changingRounds_35 (by decide) (fun h35 => ?_) (fun h35 => ?_)
        · skip
          refine tv_iconst (v := 0) (pc := 42) dS_changingRounds_42 (by decide) ?_
          refine tv_istore3 (pc := 43) dS_changingRounds_43 (by rfl) ?_
          refine tv_iload_n (pc := 44) dS_changingRounds_44 (by rfl) ?_
          refine tv_if_eq (pc := 45) 51 dS_changingRounds_45 (by decide) (fun _ => ?_) (fun h => absurd (by decide) h)
          refine tv_goto (pc := 51) 4 dS_changingRounds_51 (by decide) ?_
          first
          | (have hc : sr_c n v := by first | exact Or.inl (by assumption) | exact Or.inr (by assumption)
             rw [if_pos hc] at he
             have ih := ihd (t + 1) (by omega) (sr_1 n v) (some (.int (sp_pass n v).2)) (some (.int (so_leave n (sp_pass n v).1).2)) (sr_I hn hv) he
             rw [← nI_1] at ih
             exact ih)
          | (have hc : ¬ sr_c n v := fun q => by rcases q with q | q <;> exact q (by assumption)
             rw [if_neg hc] at he
             exact fin t (sr_1 n v) _ _ he)
        · skip
          refine tv_iconst (v := 1) (pc := 38) dS_changingRounds_38 (by decide) ?_
          refine tv_goto (pc := 39) 43 dS_changingRounds_39 (by decide) ?_
          refine tv_istore3 (pc := 43) dS_changingRounds_43 (by rfl) ?_
          refine tv_iload_n (pc := 44) dS_changingRounds_44 (by rfl) ?_
          refine tv_if_eq (pc := 45) 51 dS_changingRounds_45 (by decide) (fun h => absurd h (by decide)) (fun _ => ?_)
          refine tv_iinc2 (v := 1) (pc := 48) dS_changingRounds_48 (by decide) (by rfl) ?_
          refine tv_goto (pc := 51) 4 dS_changingRounds_51 (by decide) ?_
          first
          | (have hc : sr_c n v := by first | exact Or.inl (by assumption) | exact Or.inr (by assumption)
             rw [if_pos hc] at he
             have ih := ihd (t + 1) (by omega) (sr_1 n v) (some (.int (sp_pass n v).2)) (some (.int (so_leave n (sp_pass n v).1).2)) (sr_I hn hv) he
             rw [← nI_1] at ih
             exact ih)
          | (have hc : ¬ sr_c n v := fun q => by rcases q with q | q <;> exact q (by assumption)
             rw [if_neg hc] at he
             exact fin t (sr_1 n v) _ _ he)
  refine tv_iconst (v := 0) (pc := 0) dS_changingRounds_0 (by decide) ?_
  refine tv_istore2 (pc := 1) dS_changingRounds_1 (by rfl) ?_
  refine tv_iconst (v := 1) (pc := 2) dS_changingRounds_2 (by decide) ?_
  refine tv_istore3 (pc := 3) dS_changingRounds_3 (by rfl) ?_
  exact reps 1000000 0 (by omega) u none none hI hw.symm
end
section
theorem tc_row_upc {u : tc_S} {be k i N : Nat} {f : Nat → Int32} {x : Int32} (h : k ≠ be) : tc_up (tc_row u be f N) k i x = tc_row (tc_up u k i x) be f N := by
  funext q
  by_cases e : q = k
  · subst e
    rw [tc_up_eq, tc_row_ne h, tc_row_ne h, tc_up_eq]
  · rw [tc_up_ne e]
    by_cases e2 : q = be
    · subst e2
      funext j
      by_cases hj : j < N
      · rw [tc_row_in hj, tc_row_in hj]
      · rw [tc_row_out (by omega), tc_row_out (by omega), tc_up_ne e]
    · rw [tc_row_ne e2, tc_row_ne e2, tc_up_ne e]
theorem tc_col_upc {u : tc_S} {b pt k z i : Nat} {f : Nat → Int32} {x : Int32} (h : k < b ∨ b + i ≤ k) : tc_up (tc_col u b pt f i) k z x = tc_col (tc_up u k z x) b pt f i := by
  funext q
  by_cases e : q = k
  · subst e
    rw [tc_up_eq, tc_col_out h, tc_col_out h, tc_up_eq]
  · rw [tc_up_ne e]
    unfold tc_col
    rw [tc_up_ne e]
theorem tp_b_or1 {p : Prop} : tp_b p ||| 1 = 1 := by
  by_cases h : p
  · rw [tp_b_t h]; rfl
  · rw [tp_b_f h]; rfl
theorem tp_b_or0 {p : Prop} : tp_b p ||| 0 = tp_b p := by
  by_cases h : p
  · rw [tp_b_t h]; rfl
  · rw [tp_b_f h]; rfl
/-- the carriers of a value behind a line of the short program -/
def sk_bs (P : tp_P) (i : Nat) (x : Int32) : Int32 := if tp_wI P i = -1 then x else if P 0 i = 1 ∧ ¬ (x >>> (P 2 i &&& 31)) &&& 1 = 0 then x ||| tp_sh (tp_wI P i) else x &&& (tp_sh (tp_wI P i) ^^^ (-1))
set_option maxRecDepth 100000 in
set_option maxHeartbeats 4000000 in
theorem c_K_behindShortLine (l : Launch) (G : tc_G) (u : tc_S) {x : Int32} {i : Nat} (hi : i < 16) : tc_C tcx G l yK_behindShortLine wK_behindShortLine r0K_behindShortLine 0 0 [.int x, .ref (tc_ad G 7), .int (nI i)] u (tc_Ki (sk_bs (pv u 9) i x) u) := by
  refine tw_ofV (own := "TracedCode$Carriers") [some (.int x), some (.ref (tc_ad G 7)), some (.int (nI i)), none] (by decide +kernel) rfl (Nat.le_of_ble_eq_true rfl) (by rfl) (fun p e s m args below meth c => ?_)
  have hi16 : tc_ix (nI i) 16 i := tc_ixN hi (by decide)
  refine tv_aload_n (pc := 0) dK_behindShortLine_0 (by rfl) ?_
  refine tv_iload_n (pc := 1) dK_behindShortLine_1 (by rfl) ?_
  refine tv_callVi (pc := 2) [_] tb_7 (by rfl) (c_C_written l G u code_7 hi16) (kVC_written wm_205 ⟨by decide, by decide⟩) (by rfl) (Nat.le_of_ble_eq_true rfl) dK_behindShortLine_2 ⟨by decide, by decide⟩ ?_
  refine tv_istore3 (pc := 5) dK_behindShortLine_5 (by rfl) ?_
  refine tv_iload_n (pc := 6) dK_behindShortLine_6 (by rfl) ?_
  refine tv_iconst (v := (-1)) (pc := 7) dK_behindShortLine_7 (by decide) ?_
  refine tv_icmp_ne (pc := 8) 13 dK_behindShortLine_8 (by decide) (fun h8 => ?_) (fun h8 => ?_)
  · skip
    refine tv_aload_n (pc := 13) dK_behindShortLine_13 (by rfl) ?_
    refine tv_iload_n (pc := 14) dK_behindShortLine_14 (by rfl) ?_
    refine tv_callVi (pc := 15) [_] tb_7 (by rfl) (c_C_kind l G u code_7 hi16) (kVC_kind wm_209 ⟨by decide, by decide⟩) (by rfl) (Nat.le_of_ble_eq_true rfl) dK_behindShortLine_15 ⟨by decide, by decide⟩ ?_
    refine tv_iconst (v := 1) (pc := 18) dK_behindShortLine_18 (by decide) ?_
    refine tv_icmp_ne (pc := 19) 41 dK_behindShortLine_19 (by decide) (fun h19 => ?_) (fun h19 => ?_)
    · skip
      refine tv_iload_n (pc := 41) dK_behindShortLine_41 (by rfl) ?_
      refine tv_iconst (v := 1) (pc := 42) dK_behindShortLine_42 (by decide) ?_
      refine tv_iload_n (pc := 43) dK_behindShortLine_43 (by rfl) ?_
      refine tv_ishl (pc := 44) dK_behindShortLine_44 ?_
      refine tv_iconst (v := (-1)) (pc := 45) dK_behindShortLine_45 (by decide) ?_
      refine tv_ixor (pc := 46) dK_behindShortLine_46 ?_
      refine tv_iand (pc := 47) dK_behindShortLine_47 ?_
      exact tv_iret (pc := 48) dK_behindShortLine_48 rfl (Nat.le_refl _) (Nat.le_refl _) ⟨by unfold sk_bs; rw [if_neg (by assumption), if_neg (fun q => by first | exact absurd q.1 (by assumption) | exact absurd (by assumption) q.2)]; rfl, rfl⟩
    · skip
      refine tv_iload_n (pc := 22) dK_behindShortLine_22 (by rfl) ?_
      refine tv_aload_n (pc := 23) dK_behindShortLine_23 (by rfl) ?_
      refine tv_iload_n (pc := 24) dK_behindShortLine_24 (by rfl) ?_
      refine tv_iconst (v := 2) (pc := 25) dK_behindShortLine_25 (by decide) ?_
      refine tv_callVi (pc := 26) [_, _] tb_7 (by rfl) (c_C_number l G u code_7 hi16 (j := 2) ⟨by decide, by decide, by decide⟩) (kVC_number wm_213 ⟨by decide, by decide⟩) (by rfl) (Nat.le_of_ble_eq_true rfl) dK_behindShortLine_26 ⟨by decide, by decide⟩ ?_
      refine tv_ishr (pc := 29) dK_behindShortLine_29 ?_
      refine tv_iconst (v := 1) (pc := 30) dK_behindShortLine_30 (by decide) ?_
      refine tv_iand (pc := 31) dK_behindShortLine_31 ?_
      refine tv_if_eq (pc := 32) 41 dK_behindShortLine_32 (by decide) (fun h32 => ?_) (fun h32 => ?_)
      · skip
        refine tv_iload_n (pc := 41) dK_behindShortLine_41 (by rfl) ?_
        refine tv_iconst (v := 1) (pc := 42) dK_behindShortLine_42 (by decide) ?_
        refine tv_iload_n (pc := 43) dK_behindShortLine_43 (by rfl) ?_
        refine tv_ishl (pc := 44) dK_behindShortLine_44 ?_
        refine tv_iconst (v := (-1)) (pc := 45) dK_behindShortLine_45 (by decide) ?_
        refine tv_ixor (pc := 46) dK_behindShortLine_46 ?_
        refine tv_iand (pc := 47) dK_behindShortLine_47 ?_
        exact tv_iret (pc := 48) dK_behindShortLine_48 rfl (Nat.le_refl _) (Nat.le_refl _) ⟨by unfold sk_bs; rw [if_neg (by assumption), if_neg (fun q => by first | exact absurd q.1 (by assumption) | exact absurd (by assumption) q.2)]; rfl, rfl⟩
      · skip
        refine tv_iload_n (pc := 35) dK_behindShortLine_35 (by rfl) ?_
        refine tv_iconst (v := 1) (pc := 36) dK_behindShortLine_36 (by decide) ?_
        refine tv_iload_n (pc := 37) dK_behindShortLine_37 (by rfl) ?_
        refine tv_ishl (pc := 38) dK_behindShortLine_38 ?_
        refine tv_ior (pc := 39) dK_behindShortLine_39 ?_
        exact tv_iret (pc := 40) dK_behindShortLine_40 rfl (Nat.le_refl _) (Nat.le_refl _) ⟨by unfold sk_bs; rw [if_neg (by assumption), if_pos ⟨by assumption, by assumption⟩]; rfl, rfl⟩
  · skip
    refine tv_iload_n (pc := 11) dK_behindShortLine_11 (by rfl) ?_
    exact tv_iret (pc := 12) dK_behindShortLine_12 rfl (Nat.le_refl _) (Nat.le_refl _) ⟨by unfold sk_bs; rw [if_pos (by assumption)], rfl⟩
set_option maxRecDepth 100000 in
set_option maxHeartbeats 4000000 in
theorem c_K_ofRegister (l : Launch) (G : tc_G) (u : tc_S) {pt : Int32} {q : Nat} (hq : tc_ix pt 17 q) {x : Int32} {r : Nat} (hr : tc_ix x 9 r) : tc_C tcx G l yK_ofRegister wK_ofRegister r0K_ofRegister 0 0 [.ref (tc_ad G 24), .int pt, .int x] u (tc_Ki (u (26 + r) q &&& 63) u) := by
  refine tw_ofV (own := "TracedCode$Carriers") [some (.ref (tc_ad G 24)), some (.int pt), some (.int x)] (by decide +kernel) rfl (Nat.le_of_ble_eq_true rfl) (by rfl) (fun p e s m args below meth c => ?_)
  refine tv_aload_n (pc := 0) dK_ofRegister_0 (by rfl) ?_
  refine tv_getR (pc := 1) 0 tb_24 (by rfl) uwK_ (by decide) wm_80 (by rfl) dK_ofRegister_1 ?_
  refine tv_iload_n (pc := 4) dK_ofRegister_4 (by rfl) ?_
  refine tv_aald (pc := 5) tb_25 hr dK_ofRegister_5 ?_
  refine tv_iload_n (pc := 6) dK_ofRegister_6 (by rfl) ?_
  refine tv_iald (pc := 7) (rows_26 _ hr.2.2) hq dK_ofRegister_7 ?_
  refine tv_bipush (v := 63) (pc := 8) dK_ofRegister_8 (by decide) ?_
  refine tv_iand (pc := 10) dK_ofRegister_10 ?_
  exact tv_iret (pc := 11) dK_ofRegister_11 rfl (Nat.le_refl _) (Nat.le_refl _) ⟨rfl, rfl⟩
set_option maxRecDepth 100000 in
set_option maxHeartbeats 4000000 in
theorem c_K_constantOfVariable (l : Launch) (G : tc_G) (u : tc_S) {pt : Int32} {q : Nat} (hq : tc_ix pt 17 q) {v : Nat} (hv : v < 3) : tc_C tcx G l yK_constantOfVariable wK_constantOfVariable r0K_constantOfVariable 0 0 [.ref (tc_ad G 24), .int pt, .int (nI v)] u (tc_Ki (u (36 + (6 + v)) q) u) := by
  refine tw_ofV (own := "TracedCode$Carriers") [some (.ref (tc_ad G 24)), some (.int pt), some (.int (nI v))] (by decide +kernel) rfl (Nat.le_of_ble_eq_true rfl) (by rfl) (fun p e s m args below meth c => ?_)
  have h9 : tc_ix (6 + nI v) 9 (6 + v) := by rw [show (6 : Int32) = nI 6 from rfl, nI_add]; exact tc_ixN (by omega) (by decide)
  refine tv_aload_n (pc := 0) dK_constantOfVariable_0 (by rfl) ?_
  refine tv_getR (pc := 1) 1 tb_24 (by rfl) uwK_ (by decide) wm_81 (by rfl) dK_constantOfVariable_1 ?_
  refine tv_bipush (v := 6) (pc := 4) dK_constantOfVariable_4 (by decide) ?_
  refine tv_iload_n (pc := 6) dK_constantOfVariable_6 (by rfl) ?_
  refine tv_iadd (pc := 7) dK_constantOfVariable_7 ?_
  refine tv_aald (pc := 8) tb_35 h9 dK_constantOfVariable_8 ?_
  refine tv_iload_n (pc := 9) dK_constantOfVariable_9 (by rfl) ?_
  refine tv_iald (pc := 10) (rows_36 _ h9.2.2) hq dK_constantOfVariable_10 ?_
  exact tv_iret (pc := 11) dK_constantOfVariable_11 rfl (Nat.le_refl _) (Nat.le_refl _) ⟨rfl, rfl⟩
/-- the least place that a mark names -/
def sk_pf (x : Int32) : Nat → Nat → Int32
  | 0, _ => -1
  | f + 1, k => if (x >>> (nI k &&& 31)) &&& 1 = 0 then sk_pf x f (k + 1) else nI k
set_option maxRecDepth 100000 in
set_option maxHeartbeats 4000000 in
theorem c_K_placeOfVariable (l : Launch) (G : tc_G) (u : tc_S) {pt : Int32} {q : Nat} (hq : tc_ix pt 17 q) {v : Nat} (hv : v < 3) : tc_C tcx G l yK_placeOfVariable wK_placeOfVariable r0K_placeOfVariable 0 0 [.ref (tc_ad G 24), .int pt, .int (nI v)] u (tc_Ki (sk_pf (u (26 + (6 + v)) q) 7 0) u) := by
  refine tw_ofV (own := "TracedCode$Carriers") [some (.ref (tc_ad G 24)), some (.int pt), some (.int (nI v)), none] (by decide +kernel) rfl (Nat.le_of_ble_eq_true rfl) (by rfl) (fun p e s m args below meth c => ?_)
  have h9 : tc_ix (6 + nI v) 9 (6 + v) := by rw [show (6 : Int32) = nI 6 from rfl, nI_add]; exact tc_ixN (by omega) (by decide)
  obtain ⟨w, hw⟩ : ∃ w, w = sk_pf (u (26 + (6 + v)) q) 7 0 := ⟨_, rfl⟩
  rw [← hw]
  have loop : ∀ d i : Nat, i + d = 7 → sk_pf (u (26 + (6 + v)) q) d i = w → tc_V tcx G p l e r0K_placeOfVariable s m args below meth c bK_placeOfVariable 4 tw "TracedCode$Carriers" (some .int) [] (MQ below (tc_Qc tcx G (tc_Ki w u) s.heap.size) args s 0 0 (tc_A tcx G s.heap.size)) 0 0 u 2 [some (.ref (tc_ad G 24)), some (.int pt), some (.int (nI v)), some (.int (nI i))] [] := by
    intro d
    induction d with
    | zero =>
      intro i hd he
      have e : i = 7 := by omega
      refine tv_iload_n (pc := 2) dK_placeOfVariable_2 (by rfl) ?_
      refine tv_bipush (v := 6) (pc := 3) dK_placeOfVariable_3 (by decide) ?_
      refine tv_icmp_gt (pc := 5) 34 dK_placeOfVariable_5 (by decide) (fun _ => ?_) (fun h => absurd (by rw [e]; decide) h)
      refine tv_iconst (v := (-1)) (pc := 34) dK_placeOfVariable_34 (by decide) ?_
      exact tv_iret (pc := 35) dK_placeOfVariable_35 rfl (Nat.le_refl _) (Nat.le_refl _) ⟨by rw [← he]; rfl, rfl⟩
    | succ d ih =>
      intro i hd he
      unfold sk_pf at he
      refine tv_iload_n (pc := 2) dK_placeOfVariable_2 (by rfl) ?_
      refine tv_bipush (v := 6) (pc := 3) dK_placeOfVariable_3 (by decide) ?_
      refine tv_icmp_gt (pc := 5) 34 dK_placeOfVariable_5 (by decide) (fun h => absurd h (by rw [show (6 : Int32) = nI 6 from rfl]; exact nI_nlt (by omega) (by omega))) (fun _ => ?_)
      refine tv_aload_n (pc := 8) dK_placeOfVariable_8 (by rfl) ?_
      refine tv_getR (pc := 9) 0 tb_24 (by rfl) uwK_ (by decide) wm_80 (by rfl) dK_placeOfVariable_9 ?_
      refine tv_bipush (v := 6) (pc := 12) dK_placeOfVariable_12 (by decide) ?_
      refine tv_iload_n (pc := 14) dK_placeOfVariable_14 (by rfl) ?_
      refine tv_iadd (pc := 15) dK_placeOfVariable_15 ?_
      refine tv_aald (pc := 16) tb_25 h9 dK_placeOfVariable_16 ?_
      refine tv_iload_n (pc := 17) dK_placeOfVariable_17 (by rfl) ?_
      refine tv_iald (pc := 18) (rows_26 _ h9.2.2) hq dK_placeOfVariable_18 ?_
      refine tv_iload_n (pc := 19) dK_placeOfVariable_19 (by rfl) ?_
      refine tv_ishr (pc := 20) dK_placeOfVariable_20 ?_
      refine tv_iconst (v := 1) (pc := 21) dK_placeOfVariable_21 (by decide) ?_
      refine tv_iand (pc := 22) dK_placeOfVariable_22 ?_
      refine tv_if_eq (pc := 23) 28 dK_placeOfVariable_23 (by decide) (fun h23 => ?_) (fun h23 => ?_)
      · skip
        refine tv_iinc3 (v := 1) (pc := 28) dK_placeOfVariable_28 (by decide) (by rfl) ?_
        refine tv_goto (pc := 31) 2 dK_placeOfVariable_31 (by decide) ?_
        rw [if_pos (by assumption)] at he
        have ih := ih (i + 1) (by omega) he
        rw [← nI_1] at ih
        exact ih
      · skip
        refine tv_iload_n (pc := 26) dK_placeOfVariable_26 (by rfl) ?_
        exact tv_iret (pc := 27) dK_placeOfVariable_27 rfl (Nat.le_refl _) (Nat.le_refl _) ⟨by rw [← he, if_neg (by assumption)], rfl⟩
  refine tv_iconst (v := 0) (pc := 0) dK_placeOfVariable_0 (by decide) ?_
  refine tv_istore3 (pc := 1) dK_placeOfVariable_1 (by rfl) ?_
  exact loop 7 0 (by omega) hw.symm
set_option maxRecDepth 100000 in
set_option maxHeartbeats 4000000 in
theorem c_K_put (l : Launch) (G : tc_G) (u : tc_S) {pt : Nat} (hp : tc_ix (nI pt) 17 pt) : tc_C tcx G l yK_put wK_put r0K_put 0 0 [.ref (tc_ad G 24), .int (nI pt)] u (tc_Kv (tc_col (tc_col u 26 pt (fun r => u 45 r) 9) 36 pt (fun r => u 46 r) 9)) := by
  refine tw_ofV (own := "TracedCode$Carriers") [some (.ref (tc_ad G 24)), some (.int (nI pt)), none] (by decide +kernel) rfl (Nat.le_of_ble_eq_true rfl) (by rfl) (fun p e s m args below meth c => ?_)
  have loop : tc_V tcx G p l e r0K_put s m args below meth c bK_put 3 tw "TracedCode$Carriers" none [] (MQ below (tc_Qc tcx G (tc_Kv (tc_col (tc_col u 26 pt (fun r => u 45 r) 9) 36 pt (fun r => u 46 r) 9)) s.heap.size) args s 0 0 (tc_A tcx G s.heap.size)) 0 0 (tc_col (tc_col u 26 pt (fun r => u 45 r) 0) 36 pt (fun r => u 46 r) 0) 2 [some (.ref (tc_ad G 24)), some (.int (nI pt)), some (.int (nI 0))] [] := by
    refine tv_down (P := fun i => tc_V tcx G p l e r0K_put s m args below meth c bK_put 3 tw "TracedCode$Carriers" none [] (MQ below (tc_Qc tcx G (tc_Kv (tc_col (tc_col u 26 pt (fun r => u 45 r) 9) 36 pt (fun r => u 46 r) 9)) s.heap.size) args s 0 0 (tc_A tcx G s.heap.size)) 0 0 (tc_col (tc_col u 26 pt (fun r => u 45 r) i) 36 pt (fun r => u 46 r) i) 2 [some (.ref (tc_ad G 24)), some (.int (nI pt)), some (.int (nI i))] []) 9 ?_ ?_
    · skip
      refine tv_iload_n (pc := 2) dK_put_2 (by rfl) ?_
      refine tv_bipush (v := 9) (pc := 3) dK_put_3 (by decide) ?_
      refine tv_icmp_ge (pc := 5) 42 dK_put_5 (by decide) (fun _ => ?_) (fun h => absurd (by decide) h)
      exact tv_vret (pc := 42) dK_put_42 rfl (Nat.le_refl _) (Nat.le_refl _) ⟨rfl, rfl⟩
    · intro i hiN ih
      have hi9 : tc_ix (nI i) 9 i := tc_ixN hiN (by decide)
      have e1 : tc_up (tc_col (tc_col u 26 pt (fun r => u 45 r) i) 36 pt (fun r => u 46 r) i) (26 + i) pt (u 45 i) = tc_col (tc_col u 26 pt (fun r => u 45 r) (i + 1)) 36 pt (fun r => u 46 r) i := by
        rw [tc_col_upc (by omega), tc_col_s (f := fun r => u 45 r)]
      rw [← tc_col_s (i := i) (b := 36) (f := fun r => u 46 r), ← nI_1] at ih
      refine tv_iload_n (pc := 2) dK_put_2 (by rfl) ?_
      refine tv_bipush (v := 9) (pc := 3) dK_put_3 (by decide) ?_
      refine tv_icmp_ge (pc := 5) 42 dK_put_5 (by decide) (fun h => absurd h (nI_lt9 hiN)) (fun _ => ?_)
      refine tv_aload_n (pc := 8) dK_put_8 (by rfl) ?_
      refine tv_getR (pc := 9) 0 tb_24 (by rfl) uwK_ (by decide) wm_80 (by rfl) dK_put_9 ?_
      refine tv_iload_n (pc := 12) dK_put_12 (by rfl) ?_
      refine tv_aald (pc := 13) tb_25 hi9 dK_put_13 ?_
      refine tv_iload_n (pc := 14) dK_put_14 (by rfl) ?_
      refine tv_aload_n (pc := 15) dK_put_15 (by rfl) ?_
      refine tv_getR (pc := 16) 2 tb_24 (by rfl) uwK_ (by decide) wm_82 (by rfl) dK_put_16 ?_
      refine tv_iload_n (pc := 19) dK_put_19 (by rfl) ?_
      refine tv_iald (pc := 20) tb_45 hi9 dK_put_20 ?_
      refine tv_iast (pc := 21) (rows_26 _ hi9.2.2) hp dK_put_21 ?_
      rw [tc_col_out (q := 45) (by omega), tc_col_out (q := 45) (by omega), e1]
      refine tv_aload_n (pc := 22) dK_put_22 (by rfl) ?_
      refine tv_getR (pc := 23) 1 tb_24 (by rfl) uwK_ (by decide) wm_81 (by rfl) dK_put_23 ?_
      refine tv_iload_n (pc := 26) dK_put_26 (by rfl) ?_
      refine tv_aald (pc := 27) tb_35 hi9 dK_put_27 ?_
      refine tv_iload_n (pc := 28) dK_put_28 (by rfl) ?_
      refine tv_aload_n (pc := 29) dK_put_29 (by rfl) ?_
      refine tv_getR (pc := 30) 3 tb_24 (by rfl) uwK_ (by decide) wm_83 (by rfl) dK_put_30 ?_
      refine tv_iload_n (pc := 33) dK_put_33 (by rfl) ?_
      refine tv_iald (pc := 34) tb_46 hi9 dK_put_34 ?_
      refine tv_iast (pc := 35) (rows_36 _ hi9.2.2) hp dK_put_35 ?_
      refine tv_iinc2 (v := 1) (pc := 36) dK_put_36 (by decide) (by rfl) ?_
      refine tv_goto (pc := 39) 2 dK_put_39 (by decide) ?_
      rw [tc_col_out (q := 46) (by omega), tc_col_out (q := 46) (by omega)]
      exact ih
  rw [tc_col_0, tc_col_0] at loop
  refine tv_iconst (v := 0) (pc := 0) dK_put_0 (by decide) ?_
  refine tv_istore2 (pc := 1) dK_put_1 (by rfl) ?_
  exact loop
def sk_n (u : tc_S) (pt r : Nat) : Int32 := if u (36 + r) pt = u 46 r then u (26 + r) pt &&& u 45 r else (u (26 + r) pt &&& u 45 r) &&& (-65)
def sk_q (u : tc_S) (pt r : Nat) : Prop := ¬ sk_n u pt r = u (26 + r) pt
set_option maxRecDepth 100000 in
set_option maxHeartbeats 4000000 in
theorem c_K_narrow (l : Launch) (G : tc_G) (u : tc_S) {pt : Nat} (hp : tc_ix (nI pt) 17 pt) : tc_C tcx G l yK_narrow wK_narrow r0K_narrow 0 0 [.ref (tc_ad G 24), .int (nI pt)] u (tc_Ki (tp_b (∃ r, r < 9 ∧ sk_q u pt r)) (tc_col u 26 pt (sk_n u pt) 9)) := by
  refine tw_ofV (own := "TracedCode$Carriers") [some (.ref (tc_ad G 24)), some (.int (nI pt)), none, none, none] (by decide +kernel) rfl (Nat.le_of_ble_eq_true rfl) (by rfl) (fun p e s m args below meth c => ?_)
  have loop : ∀ z : Option Value, tc_V tcx G p l e r0K_narrow s m args below meth c bK_narrow 5 tw "TracedCode$Carriers" (some .boolean) [] (MQ below (tc_Qc tcx G (tc_Ki (tp_b (∃ r, r < 9 ∧ sk_q u pt r)) (tc_col u 26 pt (sk_n u pt) 9)) s.heap.size) args s 0 0 (tc_A tcx G s.heap.size)) 0 0 (tc_col u 26 pt (sk_n u pt) 0) 4 [some (.ref (tc_ad G 24)), some (.int (nI pt)), some (.int (tp_b (∃ r, r < 0 ∧ sk_q u pt r))), some (.int (nI 0)), z] [] := by
    refine tv_down (P := fun i => ∀ z : Option Value, tc_V tcx G p l e r0K_narrow s m args below meth c bK_narrow 5 tw "TracedCode$Carriers" (some .boolean) [] (MQ below (tc_Qc tcx G (tc_Ki (tp_b (∃ r, r < 9 ∧ sk_q u pt r)) (tc_col u 26 pt (sk_n u pt) 9)) s.heap.size) args s 0 0 (tc_A tcx G s.heap.size)) 0 0 (tc_col u 26 pt (sk_n u pt) i) 4 [some (.ref (tc_ad G 24)), some (.int (nI pt)), some (.int (tp_b (∃ r, r < i ∧ sk_q u pt r))), some (.int (nI i)), z] []) 9 ?_ ?_
    · intro z
      refine tv_iload_n (pc := 4) dK_narrow_4 (by rfl) ?_
      refine tv_bipush (v := 9) (pc := 5) dK_narrow_5 (by decide) ?_
      refine tv_icmp_ge (pc := 7) 88 dK_narrow_7 (by decide) (fun _ => ?_) (fun h => absurd (by decide) h)
      refine tv_iload_n (pc := 88) dK_narrow_88 (by rfl) ?_
      exact tv_zret (pc := 89) dK_narrow_89 rfl (Nat.le_refl _) (Nat.le_refl _) tp_b_z ⟨rfl, rfl⟩
    · intro i hiN ih z
      have hi9 : tc_ix (nI i) 9 i := tc_ixN hiN (by decide)
      have g1 : ∀ q, 26 + i ≤ q → tc_col u 26 pt (sk_n u pt) i q = u q := fun q hq => tc_col_out (by omega)
      rw [← tc_col_s (i := i), ← nI_1] at ih
      refine tv_iload_n (pc := 4) dK_narrow_4 (by rfl) ?_
      refine tv_bipush (v := 9) (pc := 5) dK_narrow_5 (by decide) ?_
      refine tv_icmp_ge (pc := 7) 88 dK_narrow_7 (by decide) (fun h => absurd h (nI_lt9 hiN)) (fun _ => ?_)
      refine tv_aload_n (pc := 10) dK_narrow_10 (by rfl) ?_
      refine tv_getR (pc := 11) 0 tb_24 (by rfl) uwK_ (by decide) wm_80 (by rfl) dK_narrow_11 ?_
      refine tv_iload_n (pc := 14) dK_narrow_14 (by rfl) ?_
      refine tv_aald (pc := 15) tb_25 hi9 dK_narrow_15 ?_
      refine tv_iload_n (pc := 16) dK_narrow_16 (by rfl) ?_
      refine tv_iald (pc := 17) (rows_26 _ hi9.2.2) hp dK_narrow_17 ?_
      refine tv_aload_n (pc := 18) dK_narrow_18 (by rfl) ?_
      refine tv_getR (pc := 19) 2 tb_24 (by rfl) uwK_ (by decide) wm_82 (by rfl) dK_narrow_19 ?_
      refine tv_iload_n (pc := 22) dK_narrow_22 (by rfl) ?_
      refine tv_iald (pc := 23) tb_45 hi9 dK_narrow_23 ?_
      refine tv_iand (pc := 24) dK_narrow_24 ?_
      refine tv_istore4 (pc := 25) dK_narrow_25 (by rfl) ?_
      refine tv_aload_n (pc := 27) dK_narrow_27 (by rfl) ?_
      refine tv_getR (pc := 28) 1 tb_24 (by rfl) uwK_ (by decide) wm_81 (by rfl) dK_narrow_28 ?_
      refine tv_iload_n (pc := 31) dK_narrow_31 (by rfl) ?_
      refine tv_aald (pc := 32) tb_35 hi9 dK_narrow_32 ?_
      refine tv_iload_n (pc := 33) dK_narrow_33 (by rfl) ?_
      refine tv_iald (pc := 34) (rows_36 _ hi9.2.2) hp dK_narrow_34 ?_
      refine tv_aload_n (pc := 35) dK_narrow_35 (by rfl) ?_
      refine tv_getR (pc := 36) 3 tb_24 (by rfl) uwK_ (by decide) wm_83 (by rfl) dK_narrow_36 ?_
      refine tv_iload_n (pc := 39) dK_narrow_39 (by rfl) ?_
      refine tv_iald (pc := 40) tb_46 hi9 dK_narrow_40 ?_
      refine tv_icmp_eq (pc := 41) 51 dK_narrow_41 (by decide) (fun h41 => ?_) (fun h41 => ?_)
      · skip
        refine tv_iload_n (pc := 51) dK_narrow_51 (by rfl) ?_
        refine tv_iload (pc := 52) dK_narrow_52 (by rfl) ?_
        refine tv_aload_n (pc := 54) dK_narrow_54 (by rfl) ?_
        refine tv_getR (pc := 55) 0 tb_24 (by rfl) uwK_ (by decide) wm_80 (by rfl) dK_narrow_55 ?_
        refine tv_iload_n (pc := 58) dK_narrow_58 (by rfl) ?_
        refine tv_aald (pc := 59) tb_25 hi9 dK_narrow_59 ?_
        refine tv_iload_n (pc := 60) dK_narrow_60 (by rfl) ?_
        refine tv_iald (pc := 61) (rows_26 _ hi9.2.2) hp dK_narrow_61 ?_
        refine tv_icmp_eq (pc := 62) 69 dK_narrow_62 (by decide) (fun h62 => ?_) (fun h62 => ?_)
        · skip
          refine tv_iconst (v := 0) (pc := 69) dK_narrow_69 (by decide) ?_
          refine tv_ior (pc := 70) dK_narrow_70 ?_
          refine tv_istore2 (pc := 71) dK_narrow_71 (by rfl) ?_
          refine tv_aload_n (pc := 72) dK_narrow_72 (by rfl) ?_
          refine tv_getR (pc := 73) 0 tb_24 (by rfl) uwK_ (by decide) wm_80 (by rfl) dK_narrow_73 ?_
          refine tv_iload_n (pc := 76) dK_narrow_76 (by rfl) ?_
          refine tv_aald (pc := 77) tb_25 hi9 dK_narrow_77 ?_
          refine tv_iload_n (pc := 78) dK_narrow_78 (by rfl) ?_
          refine tv_iload (pc := 79) dK_narrow_79 (by rfl) ?_
          refine tv_iast (pc := 81) (rows_26 _ hi9.2.2) hp dK_narrow_81 ?_
          refine tv_iinc3 (v := 1) (pc := 82) dK_narrow_82 (by decide) (by rfl) ?_
          refine tv_goto (pc := 85) 4 dK_narrow_85 (by decide) ?_
          simp only [g1 (26 + i) (by omega), g1 45 (by omega), g1 (36 + i) (by omega), g1 46 (by omega)] at *
          first
          | (have e : sk_n u pt i = u (26 + i) pt &&& u 45 i := by unfold sk_n; rw [if_pos (by assumption)]
             have hc : ¬ sk_q u pt i := fun q => q (by rw [e]; assumption)
             rw [tp_b_ns hc, e] at ih
             rw [tp_b_or0]
             exact ih _)
          | (have e : sk_n u pt i = (u (26 + i) pt &&& u 45 i) &&& (-65) := by unfold sk_n; rw [if_neg (by assumption)]
             have hc : ¬ sk_q u pt i := fun q => q (by rw [e]; assumption)
             rw [tp_b_ns hc, e] at ih
             rw [tp_b_or0]
             exact ih _)
          | (have e : sk_n u pt i = u (26 + i) pt &&& u 45 i := by unfold sk_n; rw [if_pos (by assumption)]
             have hc : sk_q u pt i := fun q => by rw [e] at q; contradiction
             rw [tp_b_ex hc, e] at ih
             rw [tp_b_or1]
             exact ih _)
          | (have e : sk_n u pt i = (u (26 + i) pt &&& u 45 i) &&& (-65) := by unfold sk_n; rw [if_neg (by assumption)]
             have hc : sk_q u pt i := fun q => by rw [e] at q; contradiction
             rw [tp_b_ex hc, e] at ih
             rw [tp_b_or1]
             exact ih _)
        · skip
          refine tv_iconst (v := 1) (pc := 65) dK_narrow_65 (by decide) ?_
          refine tv_goto (pc := 66) 70 dK_narrow_66 (by decide) ?_
          refine tv_ior (pc := 70) dK_narrow_70 ?_
          refine tv_istore2 (pc := 71) dK_narrow_71 (by rfl) ?_
          refine tv_aload_n (pc := 72) dK_narrow_72 (by rfl) ?_
          refine tv_getR (pc := 73) 0 tb_24 (by rfl) uwK_ (by decide) wm_80 (by rfl) dK_narrow_73 ?_
          refine tv_iload_n (pc := 76) dK_narrow_76 (by rfl) ?_
          refine tv_aald (pc := 77) tb_25 hi9 dK_narrow_77 ?_
          refine tv_iload_n (pc := 78) dK_narrow_78 (by rfl) ?_
          refine tv_iload (pc := 79) dK_narrow_79 (by rfl) ?_
          refine tv_iast (pc := 81) (rows_26 _ hi9.2.2) hp dK_narrow_81 ?_
          refine tv_iinc3 (v := 1) (pc := 82) dK_narrow_82 (by decide) (by rfl) ?_
          refine tv_goto (pc := 85) 4 dK_narrow_85 (by decide) ?_
          simp only [g1 (26 + i) (by omega), g1 45 (by omega), g1 (36 + i) (by omega), g1 46 (by omega)] at *
          first
          | (have e : sk_n u pt i = u (26 + i) pt &&& u 45 i := by unfold sk_n; rw [if_pos (by assumption)]
             have hc : ¬ sk_q u pt i := fun q => q (by rw [e]; assumption)
             rw [tp_b_ns hc, e] at ih
             rw [tp_b_or0]
             exact ih _)
          | (have e : sk_n u pt i = (u (26 + i) pt &&& u 45 i) &&& (-65) := by unfold sk_n; rw [if_neg (by assumption)]
             have hc : ¬ sk_q u pt i := fun q => q (by rw [e]; assumption)
             rw [tp_b_ns hc, e] at ih
             rw [tp_b_or0]
             exact ih _)
          | (have e : sk_n u pt i = u (26 + i) pt &&& u 45 i := by unfold sk_n; rw [if_pos (by assumption)]
             have hc : sk_q u pt i := fun q => by rw [e] at q; contradiction
             rw [tp_b_ex hc, e] at ih
             rw [tp_b_or1]
             exact ih _)
          | (have e : sk_n u pt i = (u (26 + i) pt &&& u 45 i) &&& (-65) := by unfold sk_n; rw [if_neg (by assumption)]
             have hc : sk_q u pt i := fun q => by rw [e] at q; contradiction
             rw [tp_b_ex hc, e] at ih
             rw [tp_b_or1]
             exact ih _)
      · skip
        refine tv_iload (pc := 44) dK_narrow_44 (by rfl) ?_
        refine tv_bipush (v := (-65)) (pc := 46) dK_narrow_46 (by decide) ?_
        refine tv_iand (pc := 48) dK_narrow_48 ?_
        refine tv_istore4 (pc := 49) dK_narrow_49 (by rfl) ?_
        refine tv_iload_n (pc := 51) dK_narrow_51 (by rfl) ?_
        refine tv_iload (pc := 52) dK_narrow_52 (by rfl) ?_
        refine tv_aload_n (pc := 54) dK_narrow_54 (by rfl) ?_
        refine tv_getR (pc := 55) 0 tb_24 (by rfl) uwK_ (by decide) wm_80 (by rfl) dK_narrow_55 ?_
        refine tv_iload_n (pc := 58) dK_narrow_58 (by rfl) ?_
        refine tv_aald (pc := 59) tb_25 hi9 dK_narrow_59 ?_
        refine tv_iload_n (pc := 60) dK_narrow_60 (by rfl) ?_
        refine tv_iald (pc := 61) (rows_26 _ hi9.2.2) hp dK_narrow_61 ?_
        refine tv_icmp_eq (pc := 62) 69 dK_narrow_62 (by decide) (fun h62 => ?_) (fun h62 => ?_)
        · skip
          refine tv_iconst (v := 0) (pc := 69) dK_narrow_69 (by decide) ?_
          refine tv_ior (pc := 70) dK_narrow_70 ?_
          refine tv_istore2 (pc := 71) dK_narrow_71 (by rfl) ?_
          refine tv_aload_n (pc := 72) dK_narrow_72 (by rfl) ?_
          refine tv_getR (pc := 73) 0 tb_24 (by rfl) uwK_ (by decide) wm_80 (by rfl) dK_narrow_73 ?_
          refine tv_iload_n (pc := 76) dK_narrow_76 (by rfl) ?_
          refine tv_aald (pc := 77) tb_25 hi9 dK_narrow_77 ?_
          refine tv_iload_n (pc := 78) dK_narrow_78 (by rfl) ?_
          refine tv_iload (pc := 79) dK_narrow_79 (by rfl) ?_
          refine tv_iast (pc := 81) (rows_26 _ hi9.2.2) hp dK_narrow_81 ?_
          refine tv_iinc3 (v := 1) (pc := 82) dK_narrow_82 (by decide) (by rfl) ?_
          refine tv_goto (pc := 85) 4 dK_narrow_85 (by decide) ?_
          simp only [g1 (26 + i) (by omega), g1 45 (by omega), g1 (36 + i) (by omega), g1 46 (by omega)] at *
          first
          | (have e : sk_n u pt i = u (26 + i) pt &&& u 45 i := by unfold sk_n; rw [if_pos (by assumption)]
             have hc : ¬ sk_q u pt i := fun q => q (by rw [e]; assumption)
             rw [tp_b_ns hc, e] at ih
             rw [tp_b_or0]
             exact ih _)
          | (have e : sk_n u pt i = (u (26 + i) pt &&& u 45 i) &&& (-65) := by unfold sk_n; rw [if_neg (by assumption)]
             have hc : ¬ sk_q u pt i := fun q => q (by rw [e]; assumption)
             rw [tp_b_ns hc, e] at ih
             rw [tp_b_or0]
             exact ih _)
          | (have e : sk_n u pt i = u (26 + i) pt &&& u 45 i := by unfold sk_n; rw [if_pos (by assumption)]
             have hc : sk_q u pt i := fun q => by rw [e] at q; contradiction
             rw [tp_b_ex hc, e] at ih
             rw [tp_b_or1]
             exact ih _)
          | (have e : sk_n u pt i = (u (26 + i) pt &&& u 45 i) &&& (-65) := by unfold sk_n; rw [if_neg (by assumption)]
             have hc : sk_q u pt i := fun q => by rw [e] at q; contradiction
             rw [tp_b_ex hc, e] at ih
             rw [tp_b_or1]
             exact ih _)
        · skip
          refine tv_iconst (v := 1) (pc := 65) dK_narrow_65 (by decide) ?_
          refine tv_goto (pc := 66) 70 dK_narrow_66 (by decide) ?_
          refine tv_ior (pc := 70) dK_narrow_70 ?_
          refine tv_istore2 (pc := 71) dK_narrow_71 (by rfl) ?_
          refine tv_aload_n (pc := 72) dK_narrow_72 (by rfl) ?_
          refine tv_getR (pc := 73) 0 tb_24 (by rfl) uwK_ (by decide) wm_80 (by rfl) dK_narrow_73 ?_
          refine tv_iload_n (pc := 76) dK_narrow_76 (by rfl) ?_
          refine tv_aald (pc := 77) tb_25 hi9 dK_narrow_77 ?_
          refine tv_iload_n (pc := 78) dK_narrow_78 (by rfl) ?_
          refine tv_iload (pc := 79) dK_narrow_79 (by rfl) ?_
          refine tv_iast (pc := 81) (rows_26 _ hi9.2.2) hp dK_narrow_81 ?_
          refine tv_iinc3 (v := 1) (pc := 82) dK_narrow_82 (by decide) (by rfl) ?_
          refine tv_goto (pc := 85) 4 dK_narrow_85 (by decide) ?_
          simp only [g1 (26 + i) (by omega), g1 45 (by omega), g1 (36 + i) (by omega), g1 46 (by omega)] at *
          first
          | (have e : sk_n u pt i = u (26 + i) pt &&& u 45 i := by unfold sk_n; rw [if_pos (by assumption)]
             have hc : ¬ sk_q u pt i := fun q => q (by rw [e]; assumption)
             rw [tp_b_ns hc, e] at ih
             rw [tp_b_or0]
             exact ih _)
          | (have e : sk_n u pt i = (u (26 + i) pt &&& u 45 i) &&& (-65) := by unfold sk_n; rw [if_neg (by assumption)]
             have hc : ¬ sk_q u pt i := fun q => q (by rw [e]; assumption)
             rw [tp_b_ns hc, e] at ih
             rw [tp_b_or0]
             exact ih _)
          | (have e : sk_n u pt i = u (26 + i) pt &&& u 45 i := by unfold sk_n; rw [if_pos (by assumption)]
             have hc : sk_q u pt i := fun q => by rw [e] at q; contradiction
             rw [tp_b_ex hc, e] at ih
             rw [tp_b_or1]
             exact ih _)
          | (have e : sk_n u pt i = (u (26 + i) pt &&& u 45 i) &&& (-65) := by unfold sk_n; rw [if_neg (by assumption)]
             have hc : sk_q u pt i := fun q => by rw [e] at q; contradiction
             rw [tp_b_ex hc, e] at ih
             rw [tp_b_or1]
             exact ih _)
  rw [tc_col_0, tp_b_0] at loop
  refine tv_iconst (v := 0) (pc := 0) dK_narrow_0 (by decide) ?_
  refine tv_istore2 (pc := 1) dK_narrow_1 (by rfl) ?_
  refine tv_iconst (v := 0) (pc := 2) dK_narrow_2 (by decide) ?_
  refine tv_istore3 (pc := 3) dK_narrow_3 (by rfl) ?_
  exact loop none
end
section
/-- the mark of the register that a line of the program writes, if its line is left in the short one -/
def sk_it (P P1 : tp_P) (i : Nat) : Int32 := if P1 0 i = -1 then 0 else tp_sh (P 1 i)
def sk_m (P P1 : tp_P) (i : Nat) (f : Nat → Int32) (x : Nat) : Int32 :=
  if P 0 i = 0 ∧ x = tp_n (P 1 i) then sk_it P P1 i ||| 64
  else if P 0 i = 1 ∧ x = tp_n (P 1 i) then f (tp_n (P 2 i)) ||| sk_it P P1 i
  else if P 0 i = 2 ∧ x = tp_n (P 1 i) then sk_it P P1 i
  else if P 0 i = 5 ∧ x = 6 + tp_n (P 1 i) then f (tp_n (P 2 i)) else f x
def sk_c (P : tp_P) (i : Nat) (g : Nat → Int32) (x : Nat) : Int32 :=
  if P 0 i = 0 ∧ x = tp_n (P 1 i) then P 2 i
  else if P 0 i = 1 ∧ x = tp_n (P 1 i) then g (tp_n (P 2 i))
  else if P 0 i = 5 ∧ x = 6 + tp_n (P 1 i) then g (tp_n (P 2 i)) else g x
def sk_rs (u : tc_S) (f g : Nat → Int32) (N : Nat) : tc_S := tc_row (tc_row u 45 f N) 46 g N
theorem sk_rs_s {u : tc_S} {f g : Nat → Int32} {i : Nat} : tc_up (tc_up (sk_rs u f g i) 45 i (f i)) 46 i (g i) = sk_rs u f g (i + 1) := by
  unfold sk_rs
  rw [tc_row_upc (by decide), tc_row_s, tc_row_s]
theorem sk_rs_1 {u : tc_S} {f g : Nat → Int32} {N a : Nat} {x : Int32} (h : a < N) : tc_up (sk_rs u f g N) 45 a x = sk_rs u (fun j => if j = a then x else f j) g N := by
  unfold sk_rs
  rw [tc_row_upc (by decide), tc_row_up h]
theorem sk_rs_2 {u : tc_S} {f g : Nat → Int32} {N a : Nat} {x : Int32} (h : a < N) : tc_up (sk_rs u f g N) 46 a x = sk_rs u f (fun j => if j = a then x else g j) N := by
  unfold sk_rs
  rw [tc_row_up h]
theorem sk_rs_o {u : tc_S} {f g : Nat → Int32} {N q : Nat} (h : q < 45) : sk_rs u f g N q = u q := by
  unfold sk_rs
  rw [tc_row_ne (by omega), tc_row_ne (by omega)]
theorem sk_rs_45 {u : tc_S} {f g : Nat → Int32} {N j : Nat} (h : j < N) : sk_rs u f g N 45 j = f j := by
  unfold sk_rs
  rw [tc_row_ne (by decide), tc_row_in h]
theorem sk_rs_46 {u : tc_S} {f g : Nat → Int32} {N j : Nat} (h : j < N) : sk_rs u f g N 46 j = g j := by
  unfold sk_rs
  rw [tc_row_in h]
theorem sk_rs_c {u : tc_S} {f g f' g' : Nat → Int32} {N : Nat} (h1 : ∀ j, j < N → f j = f' j) (h2 : ∀ j, j < N → g j = g' j) : sk_rs u f g N = sk_rs u f' g' N := by
  unfold sk_rs
  rw [tc_row_congr h1, tc_row_congr h2]
theorem sk_rs_0 {u : tc_S} {f g : Nat → Int32} : sk_rs u f g 0 = u := by unfold sk_rs; rw [tc_row_0, tc_row_0]
theorem sk_it_0 {P P1 : tp_P} {i : Nat} (h : P1 0 i = -1) : sk_it P P1 i = 0 := if_pos h
theorem sk_it_1 {P P1 : tp_P} {i : Nat} (h : ¬ P1 0 i = -1) : sk_it P P1 i = tp_sh (P 1 i) := if_neg h
theorem if10 {x y : Int32} (h : (if x = y then (1 : Int32) else 0) = 0) : ¬ x = y := fun q => absurd ((if_pos q).symm.trans h) (by decide)
theorem if10n {x y : Int32} (h : ¬ (if x = y then (1 : Int32) else 0) = 0) : x = y := Classical.byContradiction fun q => h (if_neg q)
theorem sk_bs_congr {P Q : tp_P} {i : Nat} {x : Int32} (h0 : P 0 i = Q 0 i) (h1 : P 1 i = Q 1 i) (h2 : P 2 i = Q 2 i) : sk_bs P i x = sk_bs Q i x := by
  unfold sk_bs tp_wI
  rw [h0, h1, h2]
def sk_f (u : tc_S) (i r : Nat) : Int32 := sk_bs (pv u 9) i (u (26 + r) i)
def sk_g (u : tc_S) (i r : Nat) : Int32 := u (36 + r) i
/-- following on Carriers -/
def sk_fol (i : Nat) (u : tc_S) : tc_S := sk_rs u (sk_m (pv u 3) (pv u 9) i (sk_f u i)) (sk_c (pv u 3) i (sk_g u i)) 9
set_option maxRecDepth 100000 in
set_option maxHeartbeats 4000000 in
theorem c_K_follow (l : Launch) (G : tc_G) (u : tc_S) {i : Nat} (hi : i < 16) (hl : tp_line (pv u 3) i) (hne : ¬ pv u 3 0 i = -1) : tc_C tcx G l yK_follow wK_follow r0K_follow 0 0 [.ref (tc_ad G 24), .ref (tc_ad G 1), .ref (tc_ad G 7), .int (nI i)] u (tc_Kv (sk_fol i u)) := by
  refine tw_ofV (own := "TracedCode$Carriers") [some (.ref (tc_ad G 24)), some (.ref (tc_ad G 1)), some (.ref (tc_ad G 7)), some (.int (nI i)), none, none, none] (by decide +kernel) rfl (Nat.le_of_ble_eq_true rfl) (by rfl) (fun p e s m args below meth c => ?_)
  have hi16 : tc_ix (nI i) 16 i := tc_ixN hi (by decide)
  have hi17 : tc_ix (nI i) 17 i := tc_ixN (by omega) (by decide)
  have hk : pv u 3 0 i = 0 ∨ pv u 3 0 i = 1 ∨ pv u 3 0 i = 2 ∨ pv u 3 0 i = 3 ∨ pv u 3 0 i = 4 ∨ pv u 3 0 i = 5 := by
    rcases hl.1 with q | q
    · exact absurd q hne
    · exact q
  obtain ⟨a1, ha1, e1⟩ := hl.2.1 hne
  have n1 : tp_n (pv u 3 1 i) = a1 := by rw [e1]; exact nI_clamp (by omega)
  have x1 : tc_ix (pv u 3 1 i) 9 a1 := by rw [e1]; exact tc_ixN (by omega) (by decide)
  have fin : ∀ (z y it : Option Value) (f g : Nat → Int32), (∀ j, j < 9 → f j = sk_m (pv u 3) (pv u 9) i (sk_f u i) j) → (∀ j, j < 9 → g j = sk_c (pv u 3) i (sk_g u i) j) → tc_V tcx G p l e r0K_follow s m args below meth c bK_follow 7 tw "TracedCode$Carriers" none [] (MQ below (tc_Qc tcx G (tc_Kv (sk_fol i u)) s.heap.size) args s 0 0 (tc_A tcx G s.heap.size)) 0 0 (sk_rs u f g 9) 239 [some (.ref (tc_ad G 24)), some (.ref (tc_ad G 1)), some (.ref (tc_ad G 7)), some (.int (nI i)), z, y, it] [] := by
    intro z y it f g h1 h2
    refine tv_vret (pc := 239) dK_follow_239 rfl (Nat.le_refl _) (Nat.le_refl _) ⟨rfl, ?_⟩
    exact sk_rs_c h1 h2
  have sw : tc_V tcx G p l e r0K_follow s m args below meth c bK_follow 7 tw "TracedCode$Carriers" none [] (MQ below (tc_Qc tcx G (tc_Kv (sk_fol i u)) s.heap.size) args s 0 0 (tc_A tcx G s.heap.size)) 0 0 (sk_rs u (sk_f u i) (sk_g u i) 9) 92 [some (.ref (tc_ad G 24)), some (.ref (tc_ad G 1)), some (.ref (tc_ad G 7)), some (.int (nI i)), some (.int (pv u 3 1 i)), some (.int (pv u 3 2 i)), some (.int (sk_it (pv u 3) (pv u 9) i))] [.int (pv u 3 0 i)] := by
    rcases hk with h | h | h | h | h | h
    · rw [h]
      refine tv_tableIn (pc := 92) (off := 40) 132 dK_follow_92 (by decide) (by decide) (by decide) (by decide) ?_
      refine tv_aload_n (pc := 132) dK_follow_132 (by rfl) ?_
      refine tv_getR (pc := 133) 2 tb_24 (by rfl) uwK_ (by decide) wm_82 (by rfl) dK_follow_133 ?_
      refine tv_iload (pc := 136) dK_follow_136 (by rfl) ?_
      refine tv_iload (pc := 138) dK_follow_138 (by rfl) ?_
      refine tv_bipush (v := 64) (pc := 140) dK_follow_140 (by decide) ?_
      refine tv_ior (pc := 142) dK_follow_142 ?_
      refine tv_iast (pc := 143) tb_45 x1 dK_follow_143 ?_
      rw [sk_rs_1 (by omega)]
      refine tv_aload_n (pc := 144) dK_follow_144 (by rfl) ?_
      refine tv_getR (pc := 145) 3 tb_24 (by rfl) uwK_ (by decide) wm_83 (by rfl) dK_follow_145 ?_
      refine tv_iload (pc := 148) dK_follow_148 (by rfl) ?_
      refine tv_iload (pc := 150) dK_follow_150 (by rfl) ?_
      refine tv_iast (pc := 152) tb_46 x1 dK_follow_152 ?_
      refine tv_goto (pc := 153) 239 dK_follow_153 (by decide) ?_
      rw [sk_rs_2 (by omega)]
      refine fin _ _ _ _ _ (fun j hj => ?_) (fun j hj => ?_)
      · unfold sk_m; simp [h, n1]
      · unfold sk_c; simp [h, n1]
    · rw [h]
      refine tv_tableIn (pc := 92) (off := 64) 156 dK_follow_92 (by decide) (by decide) (by decide) (by decide) ?_
      obtain ⟨a2, ha2, e2⟩ := hl.2.2.1 (by rw [h]; decide)
      have n2 : tp_n (pv u 3 2 i) = a2 := by rw [e2]; exact nI_clamp (by omega)
      have x2 : tc_ix (pv u 3 2 i) 9 a2 := by rw [e2]; exact tc_ixN (by omega) (by decide)
      refine tv_aload_n (pc := 156) dK_follow_156 (by rfl) ?_
      refine tv_getR (pc := 157) 2 tb_24 (by rfl) uwK_ (by decide) wm_82 (by rfl) dK_follow_157 ?_
      refine tv_iload (pc := 160) dK_follow_160 (by rfl) ?_
      refine tv_aload_n (pc := 162) dK_follow_162 (by rfl) ?_
      refine tv_getR (pc := 163) 2 tb_24 (by rfl) uwK_ (by decide) wm_82 (by rfl) dK_follow_163 ?_
      refine tv_iload (pc := 166) dK_follow_166 (by rfl) ?_
      refine tv_iald (pc := 168) tb_45 x2 dK_follow_168 ?_
      refine tv_iload (pc := 169) dK_follow_169 (by rfl) ?_
      refine tv_ior (pc := 171) dK_follow_171 ?_
      refine tv_iast (pc := 172) tb_45 x1 dK_follow_172 ?_
      rw [sk_rs_45 (by omega), sk_rs_1 (by omega)]
      refine tv_aload_n (pc := 173) dK_follow_173 (by rfl) ?_
      refine tv_getR (pc := 174) 3 tb_24 (by rfl) uwK_ (by decide) wm_83 (by rfl) dK_follow_174 ?_
      refine tv_iload (pc := 177) dK_follow_177 (by rfl) ?_
      refine tv_aload_n (pc := 179) dK_follow_179 (by rfl) ?_
      refine tv_getR (pc := 180) 3 tb_24 (by rfl) uwK_ (by decide) wm_83 (by rfl) dK_follow_180 ?_
      refine tv_iload (pc := 183) dK_follow_183 (by rfl) ?_
      refine tv_iald (pc := 185) tb_46 x2 dK_follow_185 ?_
      refine tv_iast (pc := 186) tb_46 x1 dK_follow_186 ?_
      refine tv_goto (pc := 187) 239 dK_follow_187 (by decide) ?_
      rw [sk_rs_46 (by omega), sk_rs_2 (by omega)]
      refine fin _ _ _ _ _ (fun j hj => ?_) (fun j hj => ?_)
      · unfold sk_m; simp [h, n1, n2]
      · unfold sk_c; simp [h, n1, n2]
    · rw [h]
      refine tv_tableIn (pc := 92) (off := 98) 190 dK_follow_92 (by decide) (by decide) (by decide) (by decide) ?_
      refine tv_aload_n (pc := 190) dK_follow_190 (by rfl) ?_
      refine tv_getR (pc := 191) 2 tb_24 (by rfl) uwK_ (by decide) wm_82 (by rfl) dK_follow_191 ?_
      refine tv_iload (pc := 194) dK_follow_194 (by rfl) ?_
      refine tv_iload (pc := 196) dK_follow_196 (by rfl) ?_
      refine tv_iast (pc := 198) tb_45 x1 dK_follow_198 ?_
      refine tv_goto (pc := 199) 239 dK_follow_199 (by decide) ?_
      rw [sk_rs_1 (by omega)]
      refine fin _ _ _ _ _ (fun j hj => ?_) (fun j hj => ?_)
      · unfold sk_m; simp [h, n1]
      · unfold sk_c; simp [h]
    · rw [h]
      refine tv_tableIn (pc := 92) (off := 147) 239 dK_follow_92 (by decide) (by decide) (by decide) (by decide) ?_
      refine fin _ _ _ _ _ (fun j hj => ?_) (fun j hj => ?_)
      · unfold sk_m; simp [h]
      · unfold sk_c; simp [h]
    · rw [h]
      refine tv_tableIn (pc := 92) (off := 147) 239 dK_follow_92 (by decide) (by decide) (by decide) (by decide) ?_
      refine fin _ _ _ _ _ (fun j hj => ?_) (fun j hj => ?_)
      · unfold sk_m; simp [h]
      · unfold sk_c; simp [h]
    · rw [h]
      refine tv_tableIn (pc := 92) (off := 110) 202 dK_follow_92 (by decide) (by decide) (by decide) (by decide) ?_
      obtain ⟨a2, ha2, e2⟩ := hl.2.2.1 (by rw [h]; decide)
      have n2 : tp_n (pv u 3 2 i) = a2 := by rw [e2]; exact nI_clamp (by omega)
      have x2 : tc_ix (pv u 3 2 i) 9 a2 := by rw [e2]; exact tc_ixN (by omega) (by decide)
      obtain ⟨a3, ha3, e3⟩ := hl.2.2.2.2.2 h
      have e31 : a3 = a1 := (nI_eq (by omega) (by omega)).mp (e3.symm.trans e1)
      have x3 : tc_ix (6 + pv u 3 1 i) 9 (6 + a1) := by rw [e1, show (6 : Int32) = nI 6 from rfl, nI_add]; exact tc_ixN (by omega) (by decide)
      refine tv_aload_n (pc := 202) dK_follow_202 (by rfl) ?_
      refine tv_getR (pc := 203) 2 tb_24 (by rfl) uwK_ (by decide) wm_82 (by rfl) dK_follow_203 ?_
      refine tv_bipush (v := 6) (pc := 206) dK_follow_206 (by decide) ?_
      refine tv_iload (pc := 208) dK_follow_208 (by rfl) ?_
      refine tv_iadd (pc := 210) dK_follow_210 ?_
      refine tv_aload_n (pc := 211) dK_follow_211 (by rfl) ?_
      refine tv_getR (pc := 212) 2 tb_24 (by rfl) uwK_ (by decide) wm_82 (by rfl) dK_follow_212 ?_
      refine tv_iload (pc := 215) dK_follow_215 (by rfl) ?_
      refine tv_iald (pc := 217) tb_45 x2 dK_follow_217 ?_
      refine tv_iast (pc := 218) tb_45 x3 dK_follow_218 ?_
      rw [sk_rs_45 (by omega), sk_rs_1 (by omega)]
      refine tv_aload_n (pc := 219) dK_follow_219 (by rfl) ?_
      refine tv_getR (pc := 220) 3 tb_24 (by rfl) uwK_ (by decide) wm_83 (by rfl) dK_follow_220 ?_
      refine tv_bipush (v := 6) (pc := 223) dK_follow_223 (by decide) ?_
      refine tv_iload (pc := 225) dK_follow_225 (by rfl) ?_
      refine tv_iadd (pc := 227) dK_follow_227 ?_
      refine tv_aload_n (pc := 228) dK_follow_228 (by rfl) ?_
      refine tv_getR (pc := 229) 3 tb_24 (by rfl) uwK_ (by decide) wm_83 (by rfl) dK_follow_229 ?_
      refine tv_iload (pc := 232) dK_follow_232 (by rfl) ?_
      refine tv_iald (pc := 234) tb_46 x2 dK_follow_234 ?_
      refine tv_iast (pc := 235) tb_46 x3 dK_follow_235 ?_
      refine tv_goto (pc := 236) 239 dK_follow_236 (by decide) ?_
      rw [sk_rs_46 (by omega), sk_rs_2 (by omega)]
      refine fin _ _ _ _ _ (fun j hj => ?_) (fun j hj => ?_)
      · unfold sk_m; simp [h, n1, n2]
      · unfold sk_c; simp [h, n1, n2]
  have loop : ∀ z y : Option Value, tc_V tcx G p l e r0K_follow s m args below meth c bK_follow 7 tw "TracedCode$Carriers" none [] (MQ below (tc_Qc tcx G (tc_Kv (sk_fol i u)) s.heap.size) args s 0 0 (tc_A tcx G s.heap.size)) 0 0 (sk_rs u (sk_f u i) (sk_g u i) 0) 3 [some (.ref (tc_ad G 24)), some (.ref (tc_ad G 1)), some (.ref (tc_ad G 7)), some (.int (nI i)), some (.int (nI 0)), z, y] [] := by
    refine tv_down (P := fun r => ∀ z y : Option Value, tc_V tcx G p l e r0K_follow s m args below meth c bK_follow 7 tw "TracedCode$Carriers" none [] (MQ below (tc_Qc tcx G (tc_Kv (sk_fol i u)) s.heap.size) args s 0 0 (tc_A tcx G s.heap.size)) 0 0 (sk_rs u (sk_f u i) (sk_g u i) r) 3 [some (.ref (tc_ad G 24)), some (.ref (tc_ad G 1)), some (.ref (tc_ad G 7)), some (.int (nI i)), some (.int (nI r)), z, y] []) 9 ?_ ?_
    · intro z y
      refine tv_iload (pc := 3) dK_follow_3 (by rfl) ?_
      refine tv_bipush (v := 9) (pc := 5) dK_follow_5 (by decide) ?_
      refine tv_icmp_ge (pc := 7) 53 dK_follow_7 (by decide) (fun _ => ?_) (fun h => absurd (by decide) h)
      refine tv_aload_n (pc := 53) dK_follow_53 (by rfl) ?_
      refine tv_iload_n (pc := 54) dK_follow_54 (by rfl) ?_
      refine tv_iconst (v := 1) (pc := 55) dK_follow_55 (by decide) ?_
      refine tv_callVi (pc := 56) [_, _] tb_1 (by rfl) (c_C_number l G _ code_1 hi16 (j := 1) ⟨by decide, by decide, by decide⟩) (kVC_number wm_213 ⟨by decide, by decide⟩) (by rfl) (Nat.le_of_ble_eq_true rfl) dK_follow_56 ⟨by decide, by decide⟩ ?_
      refine tv_istore4 (pc := 59) dK_follow_59 (by rfl) ?_
      refine tv_aload_n (pc := 61) dK_follow_61 (by rfl) ?_
      refine tv_iload_n (pc := 62) dK_follow_62 (by rfl) ?_
      refine tv_iconst (v := 2) (pc := 63) dK_follow_63 (by decide) ?_
      refine tv_callVi (pc := 64) [_, _] tb_1 (by rfl) (c_C_number l G _ code_1 hi16 (j := 2) ⟨by decide, by decide, by decide⟩) (kVC_number wm_213 ⟨by decide, by decide⟩) (by rfl) (Nat.le_of_ble_eq_true rfl) dK_follow_64 ⟨by decide, by decide⟩ ?_
      refine tv_istore5 (pc := 67) dK_follow_67 (by rfl) ?_
      refine tv_aload_n (pc := 69) dK_follow_69 (by rfl) ?_
      refine tv_iload_n (pc := 70) dK_follow_70 (by rfl) ?_
      refine tv_callVi (pc := 71) [_] tb_7 (by rfl) (c_C_isEmpty l G _ code_7 hi16) (kVC_isEmpty wm_217 ⟨by decide, by decide⟩) (by rfl) (Nat.le_of_ble_eq_true rfl) dK_follow_71 ⟨by decide, by decide⟩ ?_
      refine tv_if_eq (pc := 74) 81 dK_follow_74 (by decide) (fun h74 => ?_) (fun h74 => ?_)
      · skip
        refine tv_iconst (v := 1) (pc := 81) dK_follow_81 (by decide) ?_
        refine tv_iload (pc := 82) dK_follow_82 (by rfl) ?_
        refine tv_ishl (pc := 84) dK_follow_84 ?_
        refine tv_istore6 (pc := 85) dK_follow_85 (by rfl) ?_
        refine tv_aload_n (pc := 87) dK_follow_87 (by rfl) ?_
        refine tv_iload_n (pc := 88) dK_follow_88 (by rfl) ?_
        refine tv_callVi (pc := 89) [_] tb_1 (by rfl) (c_C_kind l G _ code_1 hi16) (kVC_kind wm_209 ⟨by decide, by decide⟩) (by rfl) (Nat.le_of_ble_eq_true rfl) dK_follow_89 ⟨by decide, by decide⟩ ?_
        have o1 : ∀ q, q < 45 → sk_rs u (sk_f u i) (sk_g u i) 9 q = u q := fun q hq => sk_rs_o hq
        simp only [o1 (3 + 0) (by omega), o1 (3 + 1) (by omega), o1 (3 + 2) (by omega), o1 (9 + 0) (by omega)] at *
        first
        | (have hz : pv u 9 0 i = -1 := if10n (by assumption : ¬ (if u (9 + 0) i = -1 then (1 : Int32) else 0) = 0)
           rw [sk_it_0 hz] at sw
           exact sw)
        | (have hz : ¬ pv u 9 0 i = -1 := if10 (by assumption : (if u (9 + 0) i = -1 then (1 : Int32) else 0) = 0)
           rw [sk_it_1 hz] at sw
           exact sw)
      · skip
        refine tv_iconst (v := 0) (pc := 77) dK_follow_77 (by decide) ?_
        refine tv_goto (pc := 78) 85 dK_follow_78 (by decide) ?_
        refine tv_istore6 (pc := 85) dK_follow_85 (by rfl) ?_
        refine tv_aload_n (pc := 87) dK_follow_87 (by rfl) ?_
        refine tv_iload_n (pc := 88) dK_follow_88 (by rfl) ?_
        refine tv_callVi (pc := 89) [_] tb_1 (by rfl) (c_C_kind l G _ code_1 hi16) (kVC_kind wm_209 ⟨by decide, by decide⟩) (by rfl) (Nat.le_of_ble_eq_true rfl) dK_follow_89 ⟨by decide, by decide⟩ ?_
        have o1 : ∀ q, q < 45 → sk_rs u (sk_f u i) (sk_g u i) 9 q = u q := fun q hq => sk_rs_o hq
        simp only [o1 (3 + 0) (by omega), o1 (3 + 1) (by omega), o1 (3 + 2) (by omega), o1 (9 + 0) (by omega)] at *
        first
        | (have hz : pv u 9 0 i = -1 := if10n (by assumption : ¬ (if u (9 + 0) i = -1 then (1 : Int32) else 0) = 0)
           rw [sk_it_0 hz] at sw
           exact sw)
        | (have hz : ¬ pv u 9 0 i = -1 := if10 (by assumption : (if u (9 + 0) i = -1 then (1 : Int32) else 0) = 0)
           rw [sk_it_1 hz] at sw
           exact sw)
    · intro r hr ih z y
      have hr9 : tc_ix (nI r) 9 r := tc_ixN hr (by decide)
      have o1 : ∀ q, q < 45 → sk_rs u (sk_f u i) (sk_g u i) r q = u q := fun q hq => sk_rs_o hq
      rw [← sk_rs_s, ← nI_1] at ih
      refine tv_iload (pc := 3) dK_follow_3 (by rfl) ?_
      refine tv_bipush (v := 9) (pc := 5) dK_follow_5 (by decide) ?_
      refine tv_icmp_ge (pc := 7) 53 dK_follow_7 (by decide) (fun h => absurd h (nI_lt9 hr)) (fun _ => ?_)
      refine tv_aload_n (pc := 10) dK_follow_10 (by rfl) ?_
      refine tv_getR (pc := 11) 2 tb_24 (by rfl) uwK_ (by decide) wm_82 (by rfl) dK_follow_11 ?_
      refine tv_iload (pc := 14) dK_follow_14 (by rfl) ?_
      refine tv_aload_n (pc := 16) dK_follow_16 (by rfl) ?_
      refine tv_getR (pc := 17) 0 tb_24 (by rfl) uwK_ (by decide) wm_80 (by rfl) dK_follow_17 ?_
      refine tv_iload (pc := 20) dK_follow_20 (by rfl) ?_
      refine tv_aald (pc := 22) tb_25 hr9 dK_follow_22 ?_
      refine tv_iload_n (pc := 23) dK_follow_23 (by rfl) ?_
      refine tv_iald (pc := 24) (rows_26 _ hr9.2.2) hi17 dK_follow_24 ?_
      refine tv_aload_n (pc := 25) dK_follow_25 (by rfl) ?_
      refine tv_iload_n (pc := 26) dK_follow_26 (by rfl) ?_
      refine tv_callSi (pc := 27) [_, _, _] (c_K_behindShortLine l G _ hi) (kSK_behindShortLine wm_202 ⟨by decide, by decide⟩) (by rfl) (Nat.le_of_ble_eq_true rfl) dK_follow_27 ⟨by decide, by decide⟩ ?_
      refine tv_iast (pc := 30) tb_45 hr9 dK_follow_30 ?_
      refine tv_aload_n (pc := 31) dK_follow_31 (by rfl) ?_
      refine tv_getR (pc := 32) 3 tb_24 (by rfl) uwK_ (by decide) wm_83 (by rfl) dK_follow_32 ?_
      refine tv_iload (pc := 35) dK_follow_35 (by rfl) ?_
      refine tv_aload_n (pc := 37) dK_follow_37 (by rfl) ?_
      refine tv_getR (pc := 38) 1 tb_24 (by rfl) uwK_ (by decide) wm_81 (by rfl) dK_follow_38 ?_
      refine tv_iload (pc := 41) dK_follow_41 (by rfl) ?_
      refine tv_aald (pc := 43) tb_35 hr9 dK_follow_43 ?_
      refine tv_iload_n (pc := 44) dK_follow_44 (by rfl) ?_
      refine tv_iald (pc := 45) (rows_36 _ hr9.2.2) hi17 dK_follow_45 ?_
      refine tv_iast (pc := 46) tb_46 hr9 dK_follow_46 ?_
      refine tv_iinc4 (v := 1) (pc := 47) dK_follow_47 (by decide) (by rfl) ?_
      refine tv_goto (pc := 50) 3 dK_follow_50 (by decide) ?_
      have e1 : sk_bs (pv (sk_rs u (sk_f u i) (sk_g u i) r) 9) i (sk_rs u (sk_f u i) (sk_g u i) r (26 + r) i) = sk_f u i r := by
        have ep : ∀ j, j < 4 → pv (sk_rs u (sk_f u i) (sk_g u i) r) 9 j i = pv u 9 j i := fun j hj => by unfold pv; rw [sk_rs_o (q := 9 + j) (by omega)]
        rw [sk_bs_congr (ep 0 (by omega)) (ep 1 (by omega)) (ep 2 (by omega)), sk_rs_o (q := 26 + r) (by omega)]
        rfl
      rw [e1, tc_up_ne (by omega), o1 (36 + r) (by omega)]
      exact ih _ _
  rw [sk_rs_0] at loop
  refine tv_iconst (v := 0) (pc := 0) dK_follow_0 (by decide) ?_
  refine tv_istore4 (pc := 1) dK_follow_1 (by rfl) ?_
  exact loop none none
end
section
def sk_put (q : Nat) (v : tc_S) : tc_S := tc_col (tc_col v 26 q (fun r => v 45 r) 9) 36 q (fun r => v 46 r) 9
def sk_nar (q : Nat) (v : tc_S) : tc_S := tc_col v 26 q (sk_n v q) 9
noncomputable def sk_nch (q : Nat) (v : tc_S) : Int32 := tp_b (∃ r, r < 9 ∧ sk_q v q r)
/-- nothing but the carriers' lists has changed -/
theorem sk_F1 (i : Nat) (v : tc_S) : sf_F v (sk_fol i v) := fun q hq => sk_rs_o (by omega)
theorem sk_F2 (i : Nat) (v : tc_S) : sf_F v (sk_put i v) := fun q hq => (tc_col_out (by omega)).trans (tc_col_out (by omega))
theorem sk_F3 (i : Nat) (v : tc_S) : sf_F v (sk_nar i v) := fun q hq => tc_col_out (by omega)
theorem sf_Fne {u v : tc_S} (h : sf_F u v) {i : Nat} (hl : ¬ pv u 3 0 i = -1) : ¬ pv v 3 0 i = -1 := by rw [sf_Fpv h (by omega) (by omega)]; exact hl
set_option maxRecDepth 100000 in
set_option maxHeartbeats 4000000 in
theorem c_F_settle_K (l : Launch) (G : tc_G) (u : tc_S) {n : Nat} (hs : u 7 1 = nI n) (hn : n ≤ 16) (hP : ∀ i, i < n → tp_line (pv u 9) i) (hQ : ∀ i, i < n → tp_line (pv u 3) i ∧ ¬ pv u 3 0 i = -1) : tc_C tcx G l yF_settle wF_settle r0F_settle 0 0 [.ref (tc_ad G 24), .ref (tc_ad G 1), .ref (tc_ad G 7)] u (tc_Kv (sf_3 sk_fol sk_nar sk_nch (fun i v => tp_tg n (pv v 9) i) n 1000000 (sf_1 sk_fol sk_put n u))) := by
  refine tw_ofV (own := "TracedCode$Facts") [some (.ref (tc_ad G 24)), some (.ref (tc_ad G 1)), some (.ref (tc_ad G 7)), none, none, none] (by decide +kernel) rfl (Nat.le_of_ble_eq_true rfl) (by rfl) (fun p e s m args below meth c => ?_)
  obtain ⟨w, hw⟩ : ∃ w, w = (sf_3 sk_fol sk_nar sk_nch (fun i v => tp_tg n (pv v 9) i) n 1000000 (sf_1 sk_fol sk_put n u)) := ⟨_, rfl⟩
  rw [← hw]
  have pass : ∀ (t : Nat) (v : tc_S), sf_F u v → tc_V tcx G p l e r0F_settle s m args below meth c bF_settle 6 tw "TracedCode$Facts" none [] (MQ below (tc_Qc tcx G (tc_Kv w) s.heap.size) args s 0 0 (tc_A tcx G s.heap.size)) 0 0 (sf_2 sk_fol sk_nar sk_nch (fun i v => tp_tg n (pv v 9) i) n (v, 0)).1 98 [some (.ref (tc_ad G 24)), some (.ref (tc_ad G 1)), some (.ref (tc_ad G 7)), some (.int (sf_2 sk_fol sk_nar sk_nch (fun i v => tp_tg n (pv v 9) i) n (v, 0)).2), some (.int (nI t)), some (.int (nI n))] [] → tc_V tcx G p l e r0F_settle s m args below meth c bF_settle 6 tw "TracedCode$Facts" none [] (MQ below (tc_Qc tcx G (tc_Kv w) s.heap.size) args s 0 0 (tc_A tcx G s.heap.size)) 0 0 v 51 [some (.ref (tc_ad G 24)), some (.ref (tc_ad G 1)), some (.ref (tc_ad G 7)), some (.int 0), some (.int (nI t)), some (.int (nI 0))] [] := by
    intro t v hv hend
    have hF : ∀ i, sf_F u (sf_2 sk_fol sk_nar sk_nch (fun i v => tp_tg n (pv v 9) i) i (v, 0)).1 := fun i => hv.tr (sf_F2 sk_F1 sk_F3 (v, 0) i)
    have key : tc_V tcx G p l e r0F_settle s m args below meth c bF_settle 6 tw "TracedCode$Facts" none [] (MQ below (tc_Qc tcx G (tc_Kv w) s.heap.size) args s 0 0 (tc_A tcx G s.heap.size)) 0 0 (sf_2 sk_fol sk_nar sk_nch (fun i v => tp_tg n (pv v 9) i) 0 (v, 0)).1 51 [some (.ref (tc_ad G 24)), some (.ref (tc_ad G 1)), some (.ref (tc_ad G 7)), some (.int (sf_2 sk_fol sk_nar sk_nch (fun i v => tp_tg n (pv v 9) i) 0 (v, 0)).2), some (.int (nI t)), some (.int (nI 0))] [] := by
      refine tv_down (P := fun i => tc_V tcx G p l e r0F_settle s m args below meth c bF_settle 6 tw "TracedCode$Facts" none [] (MQ below (tc_Qc tcx G (tc_Kv w) s.heap.size) args s 0 0 (tc_A tcx G s.heap.size)) 0 0 (sf_2 sk_fol sk_nar sk_nch (fun i v => tp_tg n (pv v 9) i) i (v, 0)).1 51 [some (.ref (tc_ad G 24)), some (.ref (tc_ad G 1)), some (.ref (tc_ad G 7)), some (.int (sf_2 sk_fol sk_nar sk_nch (fun i v => tp_tg n (pv v 9) i) i (v, 0)).2), some (.int (nI t)), some (.int (nI i))] []) n ?_ ?_
      · have hsz : (sf_2 sk_fol sk_nar sk_nch (fun i v => tp_tg n (pv v 9) i) n (v, 0)).1 7 1 = nI n := by rw [hF n 7 (by omega), hs]
        refine tv_iload (pc := 51) dF_settle_51 (by rfl) ?_
        refine tv_aload_n (pc := 53) dF_settle_53 (by rfl) ?_
        refine tv_callVi (pc := 54) [] tb_7 (by rfl) (c_C_size l G _ code_7) (kVC_size wm_192 ⟨by decide, by decide⟩) (by rfl) (Nat.le_of_ble_eq_true rfl) dF_settle_54 ⟨by decide, by decide⟩ ?_
        refine tv_icmp_ge (pc := 57) 98 dF_settle_57 (by decide) (fun _ => ?_) (fun h => absurd (by rw [hsz]; exact Int32.le_refl _) h)
        exact hend
      · intro i hiN ih
        have hsz : (sf_2 sk_fol sk_nar sk_nch (fun i v => tp_tg n (pv v 9) i) i (v, 0)).1 7 1 = nI n := by rw [hF i 7 (by omega), hs]
        have hi16 : tc_ix (nI i) 16 i := tc_ixN (by omega) (by decide)
        have hl := sf_Fline (hF i) (b := 9) (by omega) (hP i hiN)
        obtain ⟨v0, hv0⟩ : ∃ v0, v0 = (sf_2 sk_fol sk_nar sk_nch (fun i v => tp_tg n (pv v 9) i) i (v, 0)) := ⟨_, rfl⟩
        have eih : sf_2 sk_fol sk_nar sk_nch (fun i v => tp_tg n (pv v 9) i) (i + 1) (v, 0) = (sk_nar ((fun i v => tp_tg n (pv v 9) i) i (sk_nar (i + 1) (sk_fol i v0.1))) (sk_nar (i + 1) (sk_fol i v0.1)), (v0.2 ||| sk_nch (i + 1) (sk_fol i v0.1)) ||| sk_nch ((fun i v => tp_tg n (pv v 9) i) i (sk_nar (i + 1) (sk_fol i v0.1))) (sk_nar (i + 1) (sk_fol i v0.1))) := by rw [hv0]; rfl
        rw [eih, ← nI_1] at ih
        have hF0 : sf_F u v0.1 := by rw [hv0]; exact hF i
        rw [← hv0] at hsz hl ⊢
        refine tv_iload (pc := 51) dF_settle_51 (by rfl) ?_
        refine tv_aload_n (pc := 53) dF_settle_53 (by rfl) ?_
        refine tv_callVi (pc := 54) [] tb_7 (by rfl) (c_C_size l G _ code_7) (kVC_size wm_192 ⟨by decide, by decide⟩) (by rfl) (Nat.le_of_ble_eq_true rfl) dF_settle_54 ⟨by decide, by decide⟩ ?_
        refine tv_icmp_ge (pc := 57) 98 dF_settle_57 (by decide) (fun h => absurd h (by rw [hsz]; exact nI_ge (by omega) (by omega))) (fun _ => ?_)
        refine tv_aload_n (pc := 60) dF_settle_60 (by rfl) ?_
        refine tv_aload_n (pc := 61) dF_settle_61 (by rfl) ?_
        refine tv_aload_n (pc := 62) dF_settle_62 (by rfl) ?_
        refine tv_iload (pc := 63) dF_settle_63 (by rfl) ?_
        refine tv_callUv (pc := 65) [_, _, _] tb_24 (by rfl) (c_K_follow l G v0.1 (by omega : i < 16) (sf_Fline hF0 (b := 3) (by omega) (hQ i hiN).1) (sf_Fne hF0 (hQ i hiN).2)) (tw_kU (rm := r0K_follow) (x := (⟨"TracedCode$Facts", "follow", "(LTracedCode$Code;LTracedCode$Code;I)V"⟩ : MethodName)) 3 wm_198 wm_199 wm_200 wm_6 wm_201 (by decide +kernel) rfl rfl (by decide +kernel) wm_196 ⟨by decide, by decide⟩) (by rfl) (Nat.le_of_ble_eq_true rfl) dF_settle_65 ⟨by decide, by decide⟩ ?_
        refine tv_iload_n (pc := 68) dF_settle_68 (by rfl) ?_
        refine tv_aload_n (pc := 69) dF_settle_69 (by rfl) ?_
        refine tv_iload (pc := 70) dF_settle_70 (by rfl) ?_
        refine tv_iconst (v := 1) (pc := 72) dF_settle_72 (by decide) ?_
        refine tv_iadd (pc := 73) dF_settle_73 ?_
        rw [nI_1]
        refine tv_callUi (pc := 74) [_] tb_24 (by rfl) (c_K_narrow l G (sk_fol i v0.1) (pt := (i + 1)) (tc_ixN (by omega) (by decide))) (tw_kU (rm := r0K_narrow) (x := (⟨"TracedCode$Facts", "narrow", "(I)Z"⟩ : MethodName)) 1 wm_239 wm_240 wm_241 wm_6 wm_242 (by decide +kernel) rfl rfl (by decide +kernel) wm_237 ⟨by decide, by decide⟩) (by rfl) (Nat.le_of_ble_eq_true rfl) dF_settle_74 ⟨by decide, by decide⟩ ?_
        refine tv_ior (pc := 77) dF_settle_77 ?_
        refine tv_istore3 (pc := 78) dF_settle_78 (by rfl) ?_
        refine tv_iload_n (pc := 79) dF_settle_79 (by rfl) ?_
        refine tv_aload_n (pc := 80) dF_settle_80 (by rfl) ?_
        have hF1 : sf_F u (sk_nar (i + 1) (sk_fol i v0.1)) := hF0.tr ((sk_F1 _ _).tr (sk_F3 _ _))
        have hsz1 : (sk_nar (i + 1) (sk_fol i v0.1)) 7 1 = nI n := by rw [hF1 7 (by omega), hs]
        have h4 := (sf_Fline hF1 (b := 9) (by omega) (hP i hiN)).2.2.2.1
        refine tv_aload_n (pc := 81) dF_settle_81 (by rfl) ?_
        refine tv_iload (pc := 82) dF_settle_82 (by rfl) ?_
        refine tv_callVi (pc := 84) [_] tb_7 (by rfl) (c_C_target l G _ code_7 hi16 hsz1 hn h4) (kVC_target wm_246 ⟨by decide, by decide⟩) (by rfl) (Nat.le_of_ble_eq_true rfl) dF_settle_84 ⟨by decide, by decide⟩ ?_
        refine tv_callUi (pc := 87) [_] tb_24 (by rfl) (c_K_narrow l G (sk_nar (i + 1) (sk_fol i v0.1)) (pt := (tp_tg n (pv (sk_nar (i + 1) (sk_fol i v0.1)) 9) i)) (tc_ixN (by have := tp_tg_le (n := n) (P := pv (sk_nar (i + 1) (sk_fol i v0.1)) 9) hiN; omega) (by decide))) (tw_kU (rm := r0K_narrow) (x := (⟨"TracedCode$Facts", "narrow", "(I)Z"⟩ : MethodName)) 1 wm_239 wm_240 wm_241 wm_6 wm_242 (by decide +kernel) rfl rfl (by decide +kernel) wm_237 ⟨by decide, by decide⟩) (by rfl) (Nat.le_of_ble_eq_true rfl) dF_settle_87 ⟨by decide, by decide⟩ ?_
        refine tv_ior (pc := 90) dF_settle_90 ?_
        refine tv_istore3 (pc := 91) dF_settle_91 (by rfl) ?_
        refine tv_iinc5 (v := 1) (pc := 92) dF_settle_92 (by decide) (by rfl) ?_
        refine tv_goto (pc := 95) 51 dF_settle_95 (by decide) ?_
        exact ih
    exact key
  have reps : ∀ d t : Nat, t + d = 1000000 → ∀ (v : tc_S) (c0 : Int32) (z : Option Value), sf_F u v → (if c0 = 0 then v else sf_3 sk_fol sk_nar sk_nch (fun i v => tp_tg n (pv v 9) i) n d v) = w → tc_V tcx G p l e r0F_settle s m args below meth c bF_settle 6 tw "TracedCode$Facts" none [] (MQ below (tc_Qc tcx G (tc_Kv w) s.heap.size) args s 0 0 (tc_A tcx G s.heap.size)) 0 0 v 35 [some (.ref (tc_ad G 24)), some (.ref (tc_ad G 1)), some (.ref (tc_ad G 7)), some (.int c0), some (.int (nI t)), z] [] := by
    intro d
    induction d with
    | zero =>
      intro t ht v c0 z hv he
      have e : t = 1000000 := by omega
      refine tv_iload_n (pc := 35) dF_settle_35 (by rfl) ?_
      refine tv_if_eq (pc := 36) 104 dF_settle_36 (by decide) (fun h36 => ?_) (fun h36 => ?_)
      · skip
        exact tv_vret (pc := 104) dF_settle_104 rfl (Nat.le_refl _) (Nat.le_refl _) ⟨rfl, by first | (rw [if_pos (by assumption)] at he; exact he) | (rw [if_neg (by assumption)] at he; exact he)⟩
      · skip
        refine tv_iload (pc := 39) dF_settle_39 (by rfl) ?_
        refine tv_ldc (pc := 41)  wm_236 dF_settle_41 ?_
        refine tv_icmp_ge (pc := 43) 104 dF_settle_43 (by decide) (fun _ => ?_) (fun h => absurd (by rw [e]; decide) h)
        exact tv_vret (pc := 104) dF_settle_104 rfl (Nat.le_refl _) (Nat.le_refl _) ⟨rfl, by first | (rw [if_pos (by assumption)] at he; exact he) | (rw [if_neg (by assumption)] at he; exact he)⟩
    | succ d ihd =>
      intro t ht v c0 z hv he
      refine tv_iload_n (pc := 35) dF_settle_35 (by rfl) ?_
      refine tv_if_eq (pc := 36) 104 dF_settle_36 (by decide) (fun h36 => ?_) (fun h36 => ?_)
      · skip
        exact tv_vret (pc := 104) dF_settle_104 rfl (Nat.le_refl _) (Nat.le_refl _) ⟨rfl, by rw [if_pos (by assumption)] at he; exact he⟩
      · skip
        refine tv_iload (pc := 39) dF_settle_39 (by rfl) ?_
        refine tv_ldc (pc := 41)  wm_236 dF_settle_41 ?_
        refine tv_icmp_ge (pc := 43) 104 dF_settle_43 (by decide) (fun h => absurd h (nI_mil (by omega))) (fun _ => ?_)
        refine tv_iconst (v := 0) (pc := 46) dF_settle_46 (by decide) ?_
        refine tv_istore3 (pc := 47) dF_settle_47 (by rfl) ?_
        refine tv_iconst (v := 0) (pc := 48) dF_settle_48 (by decide) ?_
        refine tv_istore5 (pc := 49) dF_settle_49 (by rfl) ?_
        refine pass t v hv ?_
        have ih := ihd (t + 1) (by omega) (sf_2 sk_fol sk_nar sk_nch (fun i v => tp_tg n (pv v 9) i) n (v, 0)).1 (sf_2 sk_fol sk_nar sk_nch (fun i v => tp_tg n (pv v 9) i) n (v, 0)).2 (some (.int (nI n))) (hv.tr (sf_F2 sk_F1 sk_F3 (v, 0) n)) (by rw [if_neg (by assumption)] at he; exact he)
        rw [← nI_1] at ih
        refine tv_iinc4 (v := 1) (pc := 98) dF_settle_98 (by decide) (by rfl) ?_
        refine tv_goto (pc := 101) 35 dF_settle_101 (by decide) ?_
        exact ih
  have hF : ∀ i, sf_F u (sf_1 sk_fol sk_put i u) := sf_F1 sk_F1 sk_F2 u
  have way : tc_V tcx G p l e r0F_settle s m args below meth c bF_settle 6 tw "TracedCode$Facts" none [] (MQ below (tc_Qc tcx G (tc_Kv w) s.heap.size) args s 0 0 (tc_A tcx G s.heap.size)) 0 0 (sf_1 sk_fol sk_put 0 u) 2 [some (.ref (tc_ad G 24)), some (.ref (tc_ad G 1)), some (.ref (tc_ad G 7)), some (.int (nI 0)), none, none] [] := by
    refine tv_down (P := fun i => tc_V tcx G p l e r0F_settle s m args below meth c bF_settle 6 tw "TracedCode$Facts" none [] (MQ below (tc_Qc tcx G (tc_Kv w) s.heap.size) args s 0 0 (tc_A tcx G s.heap.size)) 0 0 (sf_1 sk_fol sk_put i u) 2 [some (.ref (tc_ad G 24)), some (.ref (tc_ad G 1)), some (.ref (tc_ad G 7)), some (.int (nI i)), none, none] []) n ?_ ?_
    · have hsz : (sf_1 sk_fol sk_put n u) 7 1 = nI n := by rw [hF n 7 (by omega), hs]
      refine tv_iload_n (pc := 2) dF_settle_2 (by rfl) ?_
      refine tv_aload_n (pc := 3) dF_settle_3 (by rfl) ?_
      refine tv_callVi (pc := 4) [] tb_7 (by rfl) (c_C_size l G _ code_7) (kVC_size wm_192 ⟨by decide, by decide⟩) (by rfl) (Nat.le_of_ble_eq_true rfl) dF_settle_4 ⟨by decide, by decide⟩ ?_
      refine tv_icmp_ge (pc := 7) 30 dF_settle_7 (by decide) (fun _ => ?_) (fun h => absurd (by rw [hsz]; exact Int32.le_refl _) h)
      refine tv_iconst (v := 1) (pc := 30) dF_settle_30 (by decide) ?_
      refine tv_istore3 (pc := 31) dF_settle_31 (by rfl) ?_
      refine tv_iconst (v := 0) (pc := 32) dF_settle_32 (by decide) ?_
      refine tv_istore4 (pc := 33) dF_settle_33 (by rfl) ?_
      exact reps 1000000 0 (by omega) _ 1 none (hF n) (by rw [if_neg (by decide)]; exact hw.symm)
    · intro i hiN ih
      have hsz : (sf_1 sk_fol sk_put i u) 7 1 = nI n := by rw [hF i 7 (by omega), hs]
      have hi16 : tc_ix (nI i) 16 i := tc_ixN (by omega) (by decide)
      have hl := sf_Fline (hF i) (b := 9) (by omega) (hP i hiN)
      obtain ⟨v0, hv0⟩ : ∃ v0, v0 = (sf_1 sk_fol sk_put i u) := ⟨_, rfl⟩
      rw [show sf_1 sk_fol sk_put (i + 1) u = sk_put (i + 1) (sk_fol i v0) from by rw [hv0]; rfl, ← nI_1] at ih
      have hF0 : sf_F u v0 := by rw [hv0]; exact hF i
      rw [← hv0] at hsz hl ⊢
      refine tv_iload_n (pc := 2) dF_settle_2 (by rfl) ?_
      refine tv_aload_n (pc := 3) dF_settle_3 (by rfl) ?_
      refine tv_callVi (pc := 4) [] tb_7 (by rfl) (c_C_size l G _ code_7) (kVC_size wm_192 ⟨by decide, by decide⟩) (by rfl) (Nat.le_of_ble_eq_true rfl) dF_settle_4 ⟨by decide, by decide⟩ ?_
      refine tv_icmp_ge (pc := 7) 30 dF_settle_7 (by decide) (fun h => absurd h (by rw [hsz]; exact nI_ge (by omega) (by omega))) (fun _ => ?_)
      refine tv_aload_n (pc := 10) dF_settle_10 (by rfl) ?_
      refine tv_aload_n (pc := 11) dF_settle_11 (by rfl) ?_
      refine tv_aload_n (pc := 12) dF_settle_12 (by rfl) ?_
      refine tv_iload_n (pc := 13) dF_settle_13 (by rfl) ?_
      refine tv_callUv (pc := 14) [_, _, _] tb_24 (by rfl) (c_K_follow l G v0 (by omega : i < 16) (sf_Fline hF0 (b := 3) (by omega) (hQ i hiN).1) (sf_Fne hF0 (hQ i hiN).2)) (tw_kU (rm := r0K_follow) (x := (⟨"TracedCode$Facts", "follow", "(LTracedCode$Code;LTracedCode$Code;I)V"⟩ : MethodName)) 3 wm_198 wm_199 wm_200 wm_6 wm_201 (by decide +kernel) rfl rfl (by decide +kernel) wm_196 ⟨by decide, by decide⟩) (by rfl) (Nat.le_of_ble_eq_true rfl) dF_settle_14 ⟨by decide, by decide⟩ ?_
      refine tv_aload_n (pc := 17) dF_settle_17 (by rfl) ?_
      refine tv_iload_n (pc := 18) dF_settle_18 (by rfl) ?_
      refine tv_iconst (v := 1) (pc := 19) dF_settle_19 (by decide) ?_
      refine tv_iadd (pc := 20) dF_settle_20 ?_
      rw [nI_1]
      refine tv_callUv (pc := 21) [_] tb_24 (by rfl) (c_K_put l G (sk_fol i v0) (pt := (i + 1)) (tc_ixN (by omega) (by decide))) (tw_kU (rm := r0K_put) (x := (⟨"TracedCode$Facts", "put", "(I)V"⟩ : MethodName)) 1 wm_229 wm_230 wm_231 wm_6 wm_232 (by decide +kernel) rfl rfl (by decide +kernel) wm_227 ⟨by decide, by decide⟩) (by rfl) (Nat.le_of_ble_eq_true rfl) dF_settle_21 ⟨by decide, by decide⟩ ?_
      refine tv_iinc3 (v := 1) (pc := 24) dF_settle_24 (by decide) (by rfl) ?_
      refine tv_goto (pc := 27) 2 dF_settle_27 (by decide) ?_
      exact ih
  refine tv_iconst (v := 0) (pc := 0) dF_settle_0 (by decide) ?_
  refine tv_istore3 (pc := 1) dF_settle_1 (by rfl) ?_
  exact way
def sk_m0 (r : Nat) : Int32 := if r < 6 then 127 else 0
noncomputable def sk_find (n : Nat) (u : tc_S) : tc_S := sf_3 sk_fol sk_nar sk_nch (fun i v => tp_tg n (pv v 9) i) n 1000000 (sf_1 sk_fol sk_put n (tc_col (tc_col u 26 0 sk_m0 9) 36 0 (fun _ => 0) 9))
theorem sk_find0 (u : tc_S) (i : Nat) : sf_F u (tc_col (tc_col u 26 0 sk_m0 i) 36 0 (fun _ => 0) i) := fun q hq => (tc_col_out (by omega)).trans (tc_col_out (by omega))
theorem sk_findF (n : Nat) (u : tc_S) : sf_F u (sk_find n u) := (sk_find0 u 9).tr ((sf_F1 sk_F1 sk_F2 _ n).tr (sf_F3 sk_F1 sk_F3 1000000 _))
set_option maxRecDepth 100000 in
set_option maxHeartbeats 4000000 in
theorem c_K_find (l : Launch) (G : tc_G) (u : tc_S) {n : Nat} (hs : u 7 1 = nI n) (hn : n ≤ 16) (hP : ∀ i, i < n → tp_line (pv u 9) i) (hQ : ∀ i, i < n → tp_line (pv u 3) i ∧ ¬ pv u 3 0 i = -1) : tc_C tcx G l yK_find wK_find r0K_find 0 0 [.ref (tc_ad G 24), .ref (tc_ad G 1), .ref (tc_ad G 7)] u (tc_Kv (sk_find n u)) := by
  refine tw_ofV (own := "TracedCode$Carriers") [some (.ref (tc_ad G 24)), some (.ref (tc_ad G 1)), some (.ref (tc_ad G 7)), none] (by decide +kernel) rfl (Nat.le_of_ble_eq_true rfl) (by rfl) (fun p e s m args below meth c => ?_)
  have loop : tc_V tcx G p l e r0K_find s m args below meth c bK_find 4 tw "TracedCode$Carriers" none [] (MQ below (tc_Qc tcx G (tc_Kv (sk_find n u)) s.heap.size) args s 0 0 (tc_A tcx G s.heap.size)) 0 0 (tc_col (tc_col u 26 0 sk_m0 0) 36 0 (fun _ => 0) 0) 2 [some (.ref (tc_ad G 24)), some (.ref (tc_ad G 1)), some (.ref (tc_ad G 7)), some (.int (nI 0))] [] := by
    refine tv_down (P := fun i => tc_V tcx G p l e r0K_find s m args below meth c bK_find 4 tw "TracedCode$Carriers" none [] (MQ below (tc_Qc tcx G (tc_Kv (sk_find n u)) s.heap.size) args s 0 0 (tc_A tcx G s.heap.size)) 0 0 (tc_col (tc_col u 26 0 sk_m0 i) 36 0 (fun _ => 0) i) 2 [some (.ref (tc_ad G 24)), some (.ref (tc_ad G 1)), some (.ref (tc_ad G 7)), some (.int (nI i))] []) 9 ?_ ?_
    · have h0 := sk_find0 u 9
      refine tv_iload_n (pc := 2) dK_find_2 (by rfl) ?_
      refine tv_bipush (v := 9) (pc := 3) dK_find_3 (by decide) ?_
      refine tv_icmp_ge (pc := 5) 43 dK_find_5 (by decide) (fun _ => ?_) (fun h => absurd (by decide) h)
      refine tv_aload_n (pc := 43) dK_find_43 (by rfl) ?_
      refine tv_aload_n (pc := 44) dK_find_44 (by rfl) ?_
      refine tv_aload_n (pc := 45) dK_find_45 (by rfl) ?_
      refine tv_callUv (pc := 46) [_, _] tb_24 (by rfl) (c_F_settle_K l G _ (by rw [h0 7 (by omega)]; exact hs) hn (fun i hi => sf_Fline h0 (by omega) (hP i hi)) (fun i hi => ⟨sf_Fline h0 (by omega) (hQ i hi).1, sf_Fne h0 (hQ i hi).2⟩)) (tw_kU (rm := r0F_settle) (x := (⟨"TracedCode$Carriers", "settle", "(LTracedCode$Code;LTracedCode$Code;)V"⟩ : MethodName)) 2 wm_306 wm_307 wm_190 wm_4 wm_191 (by decide +kernel) rfl rfl (by decide +kernel) wm_305 ⟨by decide, by decide⟩) (by rfl) (Nat.le_of_ble_eq_true rfl) dK_find_46 ⟨by decide, by decide⟩ ?_
      exact tv_vret (pc := 49) dK_find_49 rfl (Nat.le_refl _) (Nat.le_refl _) ⟨rfl, rfl⟩
    · intro i hiN ih
      have hi9 : tc_ix (nI i) 9 i := tc_ixN hiN (by decide)
      have e1 : tc_up (tc_col (tc_col u 26 0 sk_m0 i) 36 0 (fun _ => 0) i) (26 + i) 0 (sk_m0 i) = tc_col (tc_col u 26 0 sk_m0 (i + 1)) 36 0 (fun _ => 0) i := by
        rw [tc_col_upc (by omega), tc_col_s]
      rw [← tc_col_s (i := i) (b := 36) (f := fun _ => 0), ← nI_1] at ih
      refine tv_iload_n (pc := 2) dK_find_2 (by rfl) ?_
      refine tv_bipush (v := 9) (pc := 3) dK_find_3 (by decide) ?_
      refine tv_icmp_ge (pc := 5) 43 dK_find_5 (by decide) (fun h => absurd h (nI_lt9 hiN)) (fun _ => ?_)
      refine tv_aload_n (pc := 8) dK_find_8 (by rfl) ?_
      refine tv_getR (pc := 9) 0 tb_24 (by rfl) uwK_ (by decide) wm_80 (by rfl) dK_find_9 ?_
      refine tv_iload_n (pc := 12) dK_find_12 (by rfl) ?_
      refine tv_aald (pc := 13) tb_25 hi9 dK_find_13 ?_
      refine tv_iconst (v := 0) (pc := 14) dK_find_14 (by decide) ?_
      refine tv_iload_n (pc := 15) dK_find_15 (by rfl) ?_
      refine tv_bipush (v := 6) (pc := 16) dK_find_16 (by decide) ?_
      refine tv_icmp_ge (pc := 18) 26 dK_find_18 (by decide) (fun h18 => ?_) (fun h18 => ?_)
      · skip
        refine tv_iconst (v := 0) (pc := 26) dK_find_26 (by decide) ?_
        refine tv_iast (pc := 27) (j := 0) (rows_26 _ hi9.2.2) ⟨by decide, by decide, by decide⟩ dK_find_27 ?_
        first
        | (have h : ¬ (6 : Int32) ≤ nI i := by assumption
           have h6 : i < 6 := Classical.byContradiction fun q => h (by rw [show (6 : Int32) = nI 6 from rfl]; exact nI_le (by omega) (by omega))
           rw [show sk_m0 i = 127 from if_pos h6] at e1)
        | (have h : (6 : Int32) ≤ nI i := by assumption
           have h6 : ¬ i < 6 := fun q => nI_lt6 q h
           rw [show sk_m0 i = 0 from if_neg h6] at e1)
        rw [e1]
        refine tv_aload_n (pc := 28) dK_find_28 (by rfl) ?_
        refine tv_getR (pc := 29) 1 tb_24 (by rfl) uwK_ (by decide) wm_81 (by rfl) dK_find_29 ?_
        refine tv_iload_n (pc := 32) dK_find_32 (by rfl) ?_
        refine tv_aald (pc := 33) tb_35 hi9 dK_find_33 ?_
        refine tv_iconst (v := 0) (pc := 34) dK_find_34 (by decide) ?_
        refine tv_iconst (v := 0) (pc := 35) dK_find_35 (by decide) ?_
        refine tv_iast (pc := 36) (j := 0) (rows_36 _ hi9.2.2) ⟨by decide, by decide, by decide⟩ dK_find_36 ?_
        refine tv_iinc3 (v := 1) (pc := 37) dK_find_37 (by decide) (by rfl) ?_
        refine tv_goto (pc := 40) 2 dK_find_40 (by decide) ?_
        exact ih
      · skip
        refine tv_bipush (v := 127) (pc := 21) dK_find_21 (by decide) ?_
        refine tv_goto (pc := 23) 27 dK_find_23 (by decide) ?_
        refine tv_iast (pc := 27) (j := 0) (rows_26 _ hi9.2.2) ⟨by decide, by decide, by decide⟩ dK_find_27 ?_
        first
        | (have h : ¬ (6 : Int32) ≤ nI i := by assumption
           have h6 : i < 6 := Classical.byContradiction fun q => h (by rw [show (6 : Int32) = nI 6 from rfl]; exact nI_le (by omega) (by omega))
           rw [show sk_m0 i = 127 from if_pos h6] at e1)
        | (have h : (6 : Int32) ≤ nI i := by assumption
           have h6 : ¬ i < 6 := fun q => nI_lt6 q h
           rw [show sk_m0 i = 0 from if_neg h6] at e1)
        rw [e1]
        refine tv_aload_n (pc := 28) dK_find_28 (by rfl) ?_
        refine tv_getR (pc := 29) 1 tb_24 (by rfl) uwK_ (by decide) wm_81 (by rfl) dK_find_29 ?_
        refine tv_iload_n (pc := 32) dK_find_32 (by rfl) ?_
        refine tv_aald (pc := 33) tb_35 hi9 dK_find_33 ?_
        refine tv_iconst (v := 0) (pc := 34) dK_find_34 (by decide) ?_
        refine tv_iconst (v := 0) (pc := 35) dK_find_35 (by decide) ?_
        refine tv_iast (pc := 36) (j := 0) (rows_36 _ hi9.2.2) ⟨by decide, by decide, by decide⟩ dK_find_36 ?_
        refine tv_iinc3 (v := 1) (pc := 37) dK_find_37 (by decide) (by rfl) ?_
        refine tv_goto (pc := 40) 2 dK_find_40 (by decide) ?_
        exact ih
  rw [tc_col_0, tc_col_0] at loop
  refine tv_iconst (v := 0) (pc := 0) dK_find_0 (by decide) ?_
  refine tv_istore3 (pc := 1) dK_find_1 (by rfl) ?_
  exact loop
end
section
/-! the machines: a Machine at the cell k, its registers in co, what it has put out in ou -/
def tcx_mach (k co ou : Nat) : Prop := tcx.1[k]? = some (4, 4, [co + 1, ou + 1, 0]) ∧ tcx.1[co]? = some (0, 6, []) ∧ tcx.1[ou]? = some (0, 200, [])
theorem mach_48 : tcx_mach 48 49 50 := ⟨tb_48, tb_49, tb_50⟩
theorem mach_51 : tcx_mach 51 52 53 := ⟨tb_51, tb_52, tb_53⟩
set_option maxRecDepth 100000 in
set_option maxHeartbeats 4000000 in
theorem c_M_begin (l : Launch) (G : tc_G) (u : tc_S) {k co ou : Nat} (hM : tcx_mach k co ou) : tc_C tcx G l yM_begin wM_begin r0M_begin 0 0 [.ref (tc_ad G k)] u (tc_Kv (tc_up (tc_row u co (fun _ => 0) 6) k 2 0)) := by
  refine tw_ofV (own := "TracedCode$Machine") [some (.ref (tc_ad G k))] (by decide +kernel) rfl (Nat.le_of_ble_eq_true rfl) (by rfl) (fun p e s m args below meth c => ?_)
  refine tv_aload_n (pc := 0) dM_begin_0 (by rfl) ?_
  refine tv_getR (pc := 1) 0 hM.1 (by rfl) uwM_ (by decide) wm_105 (by rfl) dM_begin_1 ?_
  refine tv_iconst (v := 0) (pc := 4) dM_begin_4 (by decide) ?_
  refine tv_callSv (pc := 5) [_, _] (c_A_fill l G u hM.2.1 (by decide) 0) (kSA_fill wm_316 ⟨by decide, by decide⟩) (by rfl) (Nat.le_of_ble_eq_true rfl) dM_begin_5 ⟨by decide, by decide⟩ ?_
  refine tv_aload_n (pc := 8) dM_begin_8 (by rfl) ?_
  refine tv_iconst (v := 0) (pc := 9) dM_begin_9 (by decide) ?_
  refine tv_putI (ty := .int) (pc := 10) 2 tyM_ hM.1 (by rfl) uwM_ (by decide) wm_107 okM_ nmM_ (by rfl) (by decide +kernel) (by rfl) (by rfl) (by rfl) dM_begin_10 ?_
  exact tv_vret (pc := 13) dM_begin_13 rfl (Nat.le_refl _) (Nat.le_refl _) ⟨rfl, rfl⟩
set_option maxRecDepth 100000 in
set_option maxHeartbeats 4000000 in
theorem c_M_content (l : Launch) (G : tc_G) (u : tc_S) {k co ou : Nat} (hM : tcx_mach k co ou) {x : Int32} {r : Nat} (hr : tc_ix x 6 r) : tc_C tcx G l yM_content wM_content r0M_content 0 0 [.ref (tc_ad G k), .int x] u (tc_Ki (u co r) u) := by
  refine tw_ofV (own := "TracedCode$Machine") [some (.ref (tc_ad G k)), some (.int x)] (by decide +kernel) rfl (Nat.le_of_ble_eq_true rfl) (by rfl) (fun p e s m args below meth c => ?_)
  refine tv_aload_n (pc := 0) dM_content_0 (by rfl) ?_
  refine tv_getR (pc := 1) 0 hM.1 (by rfl) uwM_ (by decide) wm_105 (by rfl) dM_content_1 ?_
  refine tv_iload_n (pc := 4) dM_content_4 (by rfl) ?_
  refine tv_iald (pc := 5) hM.2.1 hr dM_content_5 ?_
  exact tv_iret (pc := 6) dM_content_6 rfl (Nat.le_refl _) (Nat.le_refl _) ⟨rfl, rfl⟩
set_option maxRecDepth 100000 in
set_option maxHeartbeats 4000000 in
theorem c_M_outputCount (l : Launch) (G : tc_G) (u : tc_S) {k co ou : Nat} (hM : tcx_mach k co ou) : tc_C tcx G l yM_outputCount wM_outputCount r0M_outputCount 0 0 [.ref (tc_ad G k)] u (tc_Ki (u k 2) u) := by
  refine tw_ofV (own := "TracedCode$Machine") [some (.ref (tc_ad G k))] (by decide +kernel) rfl (Nat.le_of_ble_eq_true rfl) (by rfl) (fun p e s m args below meth c => ?_)
  refine tv_aload_n (pc := 0) dM_outputCount_0 (by rfl) ?_
  refine tv_getI (pc := 1) 2 hM.1 (by rfl) uwM_ (by decide) wm_107 (by rfl) dM_outputCount_1 ?_
  exact tv_iret (pc := 4) dM_outputCount_4 rfl (Nat.le_refl _) (Nat.le_refl _) ⟨rfl, rfl⟩
set_option maxRecDepth 100000 in
set_option maxHeartbeats 4000000 in
theorem c_M_outputAt (l : Launch) (G : tc_G) (u : tc_S) {k co ou : Nat} (hM : tcx_mach k co ou) {x : Int32} {j : Nat} (hj : tc_ix x 200 j) : tc_C tcx G l yM_outputAt wM_outputAt r0M_outputAt 0 0 [.ref (tc_ad G k), .int x] u (tc_Ki (u ou j) u) := by
  refine tw_ofV (own := "TracedCode$Machine") [some (.ref (tc_ad G k)), some (.int x)] (by decide +kernel) rfl (Nat.le_of_ble_eq_true rfl) (by rfl) (fun p e s m args below meth c => ?_)
  refine tv_aload_n (pc := 0) dM_outputAt_0 (by rfl) ?_
  refine tv_getR (pc := 1) 1 hM.1 (by rfl) uwM_ (by decide) wm_106 (by rfl) dM_outputAt_1 ?_
  refine tv_iload_n (pc := 4) dM_outputAt_4 (by rfl) ?_
  refine tv_iald (pc := 5) hM.2.2 hj dM_outputAt_5 ?_
  exact tv_iret (pc := 6) dM_outputAt_6 rfl (Nat.le_refl _) (Nat.le_refl _) ⟨rfl, rfl⟩
def sm_put (k ou : Nat) (x : Int32) (u : tc_S) : tc_S := if u k 2 < 200 then tc_up (tc_up u ou (tp_n (u k 2)) x) k 2 (u k 2 + 1) else u
set_option maxRecDepth 100000 in
set_option maxHeartbeats 4000000 in
theorem c_M_putOut (l : Launch) (G : tc_G) (u : tc_S) {k co ou : Nat} (hM : tcx_mach k co ou) (hne : k ≠ ou) (hc : ¬ u k 2 < 0) (x : Int32) : tc_C tcx G l yM_putOut wM_putOut r0M_putOut 0 0 [.ref (tc_ad G k), .int x] u (tc_Kv (sm_put k ou x u)) := by
  refine tw_ofV (own := "TracedCode$Machine") [some (.ref (tc_ad G k)), some (.int x)] (by decide +kernel) rfl (Nat.le_of_ble_eq_true rfl) (by rfl) (fun p e s m args below meth c => ?_)
  refine tv_aload_n (pc := 0) dM_putOut_0 (by rfl) ?_
  refine tv_getI (pc := 1) 2 hM.1 (by rfl) uwM_ (by decide) wm_107 (by rfl) dM_putOut_1 ?_
  refine tv_sipush (v := 200) (pc := 4) dM_putOut_4 (by decide) ?_
  refine tv_icmp_ge (pc := 7) 30 dM_putOut_7 (by decide) (fun h7 => ?_) (fun h7 => ?_)
  · skip
    exact tv_vret (pc := 30) dM_putOut_30 rfl (Nat.le_refl _) (Nat.le_refl _) (by first | exact ⟨rfl, by unfold sm_put; rw [if_neg (Int32.not_lt.mpr (by assumption))]⟩ | exact ⟨rfl, by unfold sm_put; rw [if_pos hlt, tc_up_ne hne]⟩)
  · skip
    have hlt : u k 2 < 200 := Int32.not_le.mp (by assumption)
    have hx : tc_ix (u k 2) 200 (tp_n (u k 2)) := by
      refine ⟨hc, rfl, ?_⟩
      obtain ⟨j, hj, ej⟩ := nI_of hc
      rw [ej] at hlt ⊢
      rw [show (200 : Int32) = nI 200 from rfl] at hlt
      have := (nI_ltI hj (by omega)).mp hlt
      unfold tp_n; rw [nI_clamp hj]; exact this
    refine tv_aload_n (pc := 10) dM_putOut_10 (by rfl) ?_
    refine tv_getR (pc := 11) 1 hM.1 (by rfl) uwM_ (by decide) wm_106 (by rfl) dM_putOut_11 ?_
    refine tv_aload_n (pc := 14) dM_putOut_14 (by rfl) ?_
    refine tv_getI (pc := 15) 2 hM.1 (by rfl) uwM_ (by decide) wm_107 (by rfl) dM_putOut_15 ?_
    refine tv_iload_n (pc := 18) dM_putOut_18 (by rfl) ?_
    refine tv_iast (pc := 19) hM.2.2 hx dM_putOut_19 ?_
    refine tv_aload_n (pc := 20) dM_putOut_20 (by rfl) ?_
    refine tv_dup (pc := 21) dM_putOut_21 (by rfl) ?_
    refine tv_getI (pc := 22) 2 hM.1 (by rfl) uwM_ (by decide) wm_107 (by rfl) dM_putOut_22 ?_
    refine tv_iconst (v := 1) (pc := 25) dM_putOut_25 (by decide) ?_
    refine tv_iadd (pc := 26) dM_putOut_26 ?_
    refine tv_putI (ty := .int) (pc := 27) 2 tyM_ hM.1 (by rfl) uwM_ (by decide) wm_107 okM_ nmM_ (by rfl) (by decide +kernel) (by rfl) (by rfl) (by rfl) dM_putOut_27 ?_
    exact tv_vret (pc := 30) dM_putOut_30 rfl (Nat.le_refl _) (Nat.le_refl _) (by first | exact ⟨rfl, by unfold sm_put; rw [if_neg (Int32.not_lt.mpr (by assumption))]⟩ | exact ⟨rfl, by unfold sm_put; rw [if_pos hlt, tc_up_ne hne]⟩)
/-- a line is done on a machine -/
def sm_do (P : tp_P) (i k co ou : Nat) (u : tc_S) : tc_S :=
  if P 0 i = 0 then tc_up u co (tp_n (P 1 i)) (P 2 i)
  else if P 0 i = 1 then tc_up u co (tp_n (P 1 i)) (u co (tp_n (P 2 i)))
  else if P 0 i = 2 then tc_up u co (tp_n (P 1 i)) (u co (tp_n (P 2 i)) + u co (tp_n (P 3 i)))
  else if P 0 i = 3 then sm_put k ou (u co (tp_n (P 1 i))) u else u
def sm_nx (n : Nat) (P : tp_P) (i co : Nat) (u : tc_S) : Nat := if P 0 i = 4 ∧ u co (tp_n (P 1 i)) = 0 then tp_tg n P i else i + 1
set_option maxRecDepth 100000 in
set_option maxHeartbeats 4000000 in
theorem c_M_perform (l : Launch) (G : tc_G) (u : tc_S) {k co ou : Nat} (hM : tcx_mach k co ou) (hne : k ≠ ou) (hc : ¬ u k 2 < 0) {ck cg cb : Nat} (hC : tcx_code ck cg cb) {n i : Nat} (hs : u ck 1 = nI n) (hn : n ≤ 16) (hi : i < 16) (hl : tp_line (pv u cb) i) : tc_C tcx G l yM_perform wM_perform r0M_perform 0 0 [.ref (tc_ad G k), .ref (tc_ad G ck), .int (nI i)] u (tc_Ki (nI (sm_nx n (pv u cb) i co u)) (sm_do (pv u cb) i k co ou u)) := by
  refine tw_ofV (own := "TracedCode$Machine") [some (.ref (tc_ad G k)), some (.ref (tc_ad G ck)), some (.int (nI i)), none, none] (by decide +kernel) rfl (Nat.le_of_ble_eq_true rfl) (by rfl) (fun p e s m args below meth c => ?_)
  have hi16 : tc_ix (nI i) 16 i := tc_ixN hi (by decide)
  have r1 : ¬ pv u cb 0 i = -1 → tc_ix (pv u cb 1 i) 6 (tp_n (pv u cb 1 i)) := fun h => by
    obtain ⟨a, ha, ea⟩ := hl.2.1 h
    rw [ea]; unfold tp_n; rw [nI_clamp (by omega)]; exact tc_ixN ha (by decide)
  have r2 : pv u cb 0 i = 1 ∨ pv u cb 0 i = 2 ∨ pv u cb 0 i = 5 → tc_ix (pv u cb 2 i) 6 (tp_n (pv u cb 2 i)) := fun h => by
    obtain ⟨a, ha, ea⟩ := hl.2.2.1 h
    rw [ea]; unfold tp_n; rw [nI_clamp (by omega)]; exact tc_ixN ha (by decide)
  have r3 : pv u cb 0 i = 2 → tc_ix (pv u cb 3 i) 6 (tp_n (pv u cb 3 i)) := fun h => by
    obtain ⟨a, ha, ea⟩ := hl.2.2.2.2.1 h
    rw [ea]; unfold tp_n; rw [nI_clamp (by omega)]; exact tc_ixN ha (by decide)
  have fin : ∀ v : tc_S, v = sm_do (pv u cb) i k co ou u → sm_nx n (pv u cb) i co u = i + 1 → tc_V tcx G p l e r0M_perform s m args below meth c bM_perform 5 tw "TracedCode$Machine" (some .int) [] (MQ below (tc_Qc tcx G (tc_Ki (nI (sm_nx n (pv u cb) i co u)) (sm_do (pv u cb) i k co ou u)) s.heap.size) args s 0 0 (tc_A tcx G s.heap.size)) 0 0 v 145 [some (.ref (tc_ad G k)), some (.ref (tc_ad G ck)), some (.int (nI i)), some (.int (pv u cb 1 i)), some (.int (pv u cb 2 i))] [] := by
    intro v hv hx
    refine tv_iload_n (pc := 145) dM_perform_145 (by rfl) ?_
    refine tv_iconst (v := 1) (pc := 146) dM_perform_146 (by decide) ?_
    refine tv_iadd (pc := 147) dM_perform_147 ?_
    exact tv_iret (pc := 148) dM_perform_148 rfl (Nat.le_refl _) (Nat.le_refl _) ⟨by rw [hx, nI_1], hv⟩
  have nx : ¬ pv u cb 0 i = 4 → sm_nx n (pv u cb) i co u = i + 1 := fun h => by unfold sm_nx; rw [if_neg (fun q => h q.1)]
  have sw : tc_V tcx G p l e r0M_perform s m args below meth c bM_perform 5 tw "TracedCode$Machine" (some .int) [] (MQ below (tc_Qc tcx G (tc_Ki (nI (sm_nx n (pv u cb) i co u)) (sm_do (pv u cb) i k co ou u)) s.heap.size) args s 0 0 (tc_A tcx G s.heap.size)) 0 0 u 20 [some (.ref (tc_ad G k)), some (.ref (tc_ad G ck)), some (.int (nI i)), some (.int (pv u cb 1 i)), some (.int (pv u cb 2 i))] [.int (pv u cb 0 i)] := by
    rcases hl.1 with h | h | h | h | h | h | h
    · skip
      have h4 : ¬ pv u cb 0 i = 4 := by rw [h]; decide
      rw [h]
      refine tv_tableOut (pc := 20) 145 dM_perform_20 (by decide) (by decide) ?_
      exact fin u (by unfold sm_do; simp [h]) (nx h4)
    · skip
      have h4 : ¬ pv u cb 0 i = 4 := by rw [h]; decide
      have x1 := r1 (by rw [h]; decide)
      rw [h]
      refine tv_tableIn (pc := 20) (off := 36) 56 dM_perform_20 (by decide) (by decide) (by decide) (by decide) ?_
      refine tv_aload_n (pc := 56) dM_perform_56 (by rfl) ?_
      refine tv_getR (pc := 57) 0 hM.1 (by rfl) uwM_ (by decide) wm_105 (by rfl) dM_perform_57 ?_
      refine tv_iload_n (pc := 60) dM_perform_60 (by rfl) ?_
      refine tv_iload (pc := 61) dM_perform_61 (by rfl) ?_
      refine tv_iast (pc := 63) hM.2.1 x1 dM_perform_63 ?_
      refine tv_goto (pc := 64) 145 dM_perform_64 (by decide) ?_
      exact fin _ (by unfold sm_do; simp [h]) (nx h4)
    · skip
      have h4 : ¬ pv u cb 0 i = 4 := by rw [h]; decide
      have x1 := r1 (by rw [h]; decide)
      have x2 := r2 (by rw [h]; decide)
      rw [h]
      refine tv_tableIn (pc := 20) (off := 47) 67 dM_perform_20 (by decide) (by decide) (by decide) (by decide) ?_
      refine tv_aload_n (pc := 67) dM_perform_67 (by rfl) ?_
      refine tv_getR (pc := 68) 0 hM.1 (by rfl) uwM_ (by decide) wm_105 (by rfl) dM_perform_68 ?_
      refine tv_iload_n (pc := 71) dM_perform_71 (by rfl) ?_
      refine tv_aload_n (pc := 72) dM_perform_72 (by rfl) ?_
      refine tv_getR (pc := 73) 0 hM.1 (by rfl) uwM_ (by decide) wm_105 (by rfl) dM_perform_73 ?_
      refine tv_iload (pc := 76) dM_perform_76 (by rfl) ?_
      refine tv_iald (pc := 78) hM.2.1 x2 dM_perform_78 ?_
      refine tv_iast (pc := 79) hM.2.1 x1 dM_perform_79 ?_
      refine tv_goto (pc := 80) 145 dM_perform_80 (by decide) ?_
      exact fin _ (by unfold sm_do; simp [h]) (nx h4)
    · skip
      have h4 : ¬ pv u cb 0 i = 4 := by rw [h]; decide
      have x1 := r1 (by rw [h]; decide)
      have x2 := r2 (by rw [h]; decide)
      have x3 := r3 h
      rw [h]
      refine tv_tableIn (pc := 20) (off := 63) 83 dM_perform_20 (by decide) (by decide) (by decide) (by decide) ?_
      refine tv_aload_n (pc := 83) dM_perform_83 (by rfl) ?_
      refine tv_getR (pc := 84) 0 hM.1 (by rfl) uwM_ (by decide) wm_105 (by rfl) dM_perform_84 ?_
      refine tv_iload_n (pc := 87) dM_perform_87 (by rfl) ?_
      refine tv_aload_n (pc := 88) dM_perform_88 (by rfl) ?_
      refine tv_getR (pc := 89) 0 hM.1 (by rfl) uwM_ (by decide) wm_105 (by rfl) dM_perform_89 ?_
      refine tv_iload (pc := 92) dM_perform_92 (by rfl) ?_
      refine tv_iald (pc := 94) hM.2.1 x2 dM_perform_94 ?_
      refine tv_aload_n (pc := 95) dM_perform_95 (by rfl) ?_
      refine tv_getR (pc := 96) 0 hM.1 (by rfl) uwM_ (by decide) wm_105 (by rfl) dM_perform_96 ?_
      refine tv_aload_n (pc := 99) dM_perform_99 (by rfl) ?_
      refine tv_iload_n (pc := 100) dM_perform_100 (by rfl) ?_
      refine tv_iconst (v := 3) (pc := 101) dM_perform_101 (by decide) ?_
      refine tv_callVi (pc := 102) [_, _] hC.1 (by rfl) (c_C_number l G u hC hi16 (j := 3) ⟨by decide, by decide, by decide⟩) (kVC_number wm_566 ⟨by decide, by decide⟩) (by rfl) (Nat.le_of_ble_eq_true rfl) dM_perform_102 ⟨by decide, by decide⟩ ?_
      refine tv_iald (pc := 105) hM.2.1 x3 dM_perform_105 ?_
      refine tv_iadd (pc := 106) dM_perform_106 ?_
      refine tv_iast (pc := 107) hM.2.1 x1 dM_perform_107 ?_
      refine tv_goto (pc := 108) 145 dM_perform_108 (by decide) ?_
      exact fin _ (by unfold sm_do; simp [h]) (nx h4)
    · skip
      have h4 : ¬ pv u cb 0 i = 4 := by rw [h]; decide
      have x1 := r1 (by rw [h]; decide)
      rw [h]
      refine tv_tableIn (pc := 20) (off := 91) 111 dM_perform_20 (by decide) (by decide) (by decide) (by decide) ?_
      refine tv_aload_n (pc := 111) dM_perform_111 (by rfl) ?_
      refine tv_aload_n (pc := 112) dM_perform_112 (by rfl) ?_
      refine tv_getR (pc := 113) 0 hM.1 (by rfl) uwM_ (by decide) wm_105 (by rfl) dM_perform_113 ?_
      refine tv_iload_n (pc := 116) dM_perform_116 (by rfl) ?_
      refine tv_iald (pc := 117) hM.2.1 x1 dM_perform_117 ?_
      refine tv_callVv (pc := 118) [_] hM.1 (by rfl) (c_M_putOut l G u hM hne hc _) (kVM_putOut wm_568 ⟨by decide, by decide⟩) (by rfl) (Nat.le_of_ble_eq_true rfl) dM_perform_118 ⟨by decide, by decide⟩ ?_
      refine tv_goto (pc := 121) 145 dM_perform_121 (by decide) ?_
      exact fin _ (by unfold sm_do; simp [h]) (nx h4)
    · skip
      have x1 := r1 (by rw [h]; decide)
      have h4 := hl.2.2.2.1
      rw [h]
      refine tv_tableIn (pc := 20) (off := 104) 124 dM_perform_20 (by decide) (by decide) (by decide) (by decide) ?_
      refine tv_aload_n (pc := 124) dM_perform_124 (by rfl) ?_
      refine tv_getR (pc := 125) 0 hM.1 (by rfl) uwM_ (by decide) wm_105 (by rfl) dM_perform_125 ?_
      refine tv_iload_n (pc := 128) dM_perform_128 (by rfl) ?_
      refine tv_iald (pc := 129) hM.2.1 x1 dM_perform_129 ?_
      refine tv_if_ne (pc := 130) 141 dM_perform_130 (by decide) (fun h130 => ?_) (fun h130 => ?_)
      · skip
        refine tv_iload_n (pc := 141) dM_perform_141 (by rfl) ?_
        refine tv_iconst (v := 1) (pc := 142) dM_perform_142 (by decide) ?_
        refine tv_iadd (pc := 143) dM_perform_143 ?_
        exact tv_iret (pc := 144) dM_perform_144 rfl (Nat.le_refl _) (Nat.le_refl _) (by first | exact ⟨by unfold sm_nx; rw [if_pos ⟨h, by assumption⟩], by unfold sm_do; simp [h]⟩ | exact ⟨by unfold sm_nx; rw [if_neg (fun q => absurd q.2 (by assumption)), nI_1], by unfold sm_do; simp [h]⟩)
      · skip
        refine tv_aload_n (pc := 133) dM_perform_133 (by rfl) ?_
        refine tv_iload_n (pc := 134) dM_perform_134 (by rfl) ?_
        refine tv_callVi (pc := 135) [_] hC.1 (by rfl) (c_C_target l G u hC hi16 hs hn h4) (kVC_target wm_572 ⟨by decide, by decide⟩) (by rfl) (Nat.le_of_ble_eq_true rfl) dM_perform_135 ⟨by decide, by decide⟩ ?_
        refine tv_goto (pc := 138) 144 dM_perform_138 (by decide) ?_
        exact tv_iret (pc := 144) dM_perform_144 rfl (Nat.le_refl _) (Nat.le_refl _) (by first | exact ⟨by unfold sm_nx; rw [if_pos ⟨h, by assumption⟩], by unfold sm_do; simp [h]⟩ | exact ⟨by unfold sm_nx; rw [if_neg (fun q => absurd q.2 (by assumption)), nI_1], by unfold sm_do; simp [h]⟩)
    · skip
      have h4 : ¬ pv u cb 0 i = 4 := by rw [h]; decide
      rw [h]
      refine tv_tableOut (pc := 20) 145 dM_perform_20 (by decide) (by decide) ?_
      exact fin u (by unfold sm_do; simp [h]) (nx h4)
  refine tv_aload_n (pc := 0) dM_perform_0 (by rfl) ?_
  refine tv_iload_n (pc := 1) dM_perform_1 (by rfl) ?_
  refine tv_iconst (v := 1) (pc := 2) dM_perform_2 (by decide) ?_
  refine tv_callVi (pc := 3) [_, _] hC.1 (by rfl) (c_C_number l G u hC hi16 (j := 1) ⟨by decide, by decide, by decide⟩) (kVC_number wm_566 ⟨by decide, by decide⟩) (by rfl) (Nat.le_of_ble_eq_true rfl) dM_perform_3 ⟨by decide, by decide⟩ ?_
  refine tv_istore3 (pc := 6) dM_perform_6 (by rfl) ?_
  refine tv_aload_n (pc := 7) dM_perform_7 (by rfl) ?_
  refine tv_iload_n (pc := 8) dM_perform_8 (by rfl) ?_
  refine tv_iconst (v := 2) (pc := 9) dM_perform_9 (by decide) ?_
  refine tv_callVi (pc := 10) [_, _] hC.1 (by rfl) (c_C_number l G u hC hi16 (j := 2) ⟨by decide, by decide, by decide⟩) (kVC_number wm_566 ⟨by decide, by decide⟩) (by rfl) (Nat.le_of_ble_eq_true rfl) dM_perform_10 ⟨by decide, by decide⟩ ?_
  refine tv_istore4 (pc := 13) dM_perform_13 (by rfl) ?_
  refine tv_aload_n (pc := 15) dM_perform_15 (by rfl) ?_
  refine tv_iload_n (pc := 16) dM_perform_16 (by rfl) ?_
  refine tv_callVi (pc := 17) [_] hC.1 (by rfl) (c_C_kind l G u hC hi16) (kVC_kind wm_567 ⟨by decide, by decide⟩) (by rfl) (Nat.le_of_ble_eq_true rfl) dM_perform_17 ⟨by decide, by decide⟩ ?_
  exact sw
end
section
set_option maxRecDepth 100000 in
set_option maxHeartbeats 4000000 in
theorem c_R_position (l : Launch) (G : tc_G) (u : tc_S)  : tc_C tcx G l yR_position wR_position r0R_position 0 0 [.ref (tc_ad G 47)] u (tc_Ki (u 47 4) u) := by
  refine tw_ofV (own := "TracedCode$Run") [some (.ref (tc_ad G 47))] (by decide +kernel) rfl (Nat.le_of_ble_eq_true rfl) (by rfl) (fun p e s m args below meth c => ?_)
  refine tv_aload_n (pc := 0) dR_position_0 (by rfl) ?_
  refine tv_getI (pc := 1) 4 tb_47 (by rfl) uwR_ (by decide) wm_119 (by rfl) dR_position_1 ?_
  exact tv_iret (pc := 4) dR_position_4 rfl (Nat.le_refl _) (Nat.le_refl _) ⟨rfl, rfl⟩
set_option maxRecDepth 100000 in
set_option maxHeartbeats 4000000 in
theorem c_R_hasValue (l : Launch) (G : tc_G) (u : tc_S) {x : Int32} {v : Nat} (hv : tc_ix x 3 v) (hz : narrow .boolean (.int (u 55 v)) = .int (u 55 v)) : tc_C tcx G l yR_hasValue wR_hasValue r0R_hasValue 0 0 [.ref (tc_ad G 47), .int x] u (tc_Ki (u 55 v) u) := by
  refine tw_ofV (own := "TracedCode$Run") [some (.ref (tc_ad G 47)), some (.int x)] (by decide +kernel) rfl (Nat.le_of_ble_eq_true rfl) (by rfl) (fun p e s m args below meth c => ?_)
  refine tv_aload_n (pc := 0) dR_hasValue_0 (by rfl) ?_
  refine tv_getR (pc := 1) 3 tb_47 (by rfl) uwR_ (by decide) wm_118 (by rfl) dR_hasValue_1 ?_
  refine tv_iload_n (pc := 4) dR_hasValue_4 (by rfl) ?_
  refine tv_zald (pc := 5) tb_55 hv dR_hasValue_5 ?_
  exact tv_zret (pc := 6) dR_hasValue_6 rfl (Nat.le_refl _) (Nat.le_refl _) hz ⟨rfl, rfl⟩
set_option maxRecDepth 100000 in
set_option maxHeartbeats 4000000 in
theorem c_R_valueOf (l : Launch) (G : tc_G) (u : tc_S) {x : Int32} {v : Nat} (hv : tc_ix x 3 v) : tc_C tcx G l yR_valueOf wR_valueOf r0R_valueOf 0 0 [.ref (tc_ad G 47), .int x] u (tc_Ki (u 54 v) u) := by
  refine tw_ofV (own := "TracedCode$Run") [some (.ref (tc_ad G 47)), some (.int x)] (by decide +kernel) rfl (Nat.le_of_ble_eq_true rfl) (by rfl) (fun p e s m args below meth c => ?_)
  refine tv_aload_n (pc := 0) dR_valueOf_0 (by rfl) ?_
  refine tv_getR (pc := 1) 2 tb_47 (by rfl) uwR_ (by decide) wm_117 (by rfl) dR_valueOf_1 ?_
  refine tv_iload_n (pc := 4) dR_valueOf_4 (by rfl) ?_
  refine tv_iald (pc := 5) tb_54 hv dR_valueOf_5 ?_
  exact tv_iret (pc := 6) dR_valueOf_6 rfl (Nat.le_refl _) (Nat.le_refl _) ⟨rfl, rfl⟩
set_option maxRecDepth 100000 in
set_option maxHeartbeats 4000000 in
theorem c_R_machine1 (l : Launch) (G : tc_G) (u : tc_S) {x : Int32} (hx : ¬ x = 0) : tc_C tcx G l yR_machine wR_machine r0R_machine 0 0 [.ref (tc_ad G 47), .int x] u (tc_Kr (tc_ad G 51) u) := by
  refine tw_ofV (own := "TracedCode$Run") [some (.ref (tc_ad G 47)), some (.int x)] (by decide +kernel) rfl (Nat.le_of_ble_eq_true rfl) (by rfl) (fun p e s m args below meth c => ?_)
  refine tv_iload_n (pc := 0) dR_machine_0 (by rfl) ?_
  refine tv_if_eq (pc := 1) 11 dR_machine_1 (by decide) (fun h => absurd h hx) (fun _ => ?_)
  refine tv_aload_n (pc := 4) dR_machine_4 (by rfl) ?_
  refine tv_getR (pc := 5) 1 tb_47 (by rfl) uwR_ (by decide) wm_116 (by rfl) dR_machine_5 ?_
  refine tv_goto (pc := 8) 15 dR_machine_8 (by decide) ?_
  exact tv_aret (pc := 15) dR_machine_15 rfl (Or.inl ⟨_, rfl⟩) (Nat.le_refl _) (Nat.le_refl _) ⟨rfl, rfl⟩
set_option maxRecDepth 100000 in
set_option maxHeartbeats 4000000 in
theorem c_R_machine0 (l : Launch) (G : tc_G) (u : tc_S)  : tc_C tcx G l yR_machine wR_machine r0R_machine 0 0 [.ref (tc_ad G 47), .int 0] u (tc_Kr (tc_ad G 48) u) := by
  refine tw_ofV (own := "TracedCode$Run") [some (.ref (tc_ad G 47)), some (.int 0)] (by decide +kernel) rfl (Nat.le_of_ble_eq_true rfl) (by rfl) (fun p e s m args below meth c => ?_)
  refine tv_iload_n (pc := 0) dR_machine_0 (by rfl) ?_
  refine tv_if_eq (pc := 1) 11 dR_machine_1 (by decide) (fun _ => ?_) (fun h => absurd (by decide) h)
  refine tv_aload_n (pc := 11) dR_machine_11 (by rfl) ?_
  refine tv_getR (pc := 12) 0 tb_47 (by rfl) uwR_ (by decide) wm_115 (by rfl) dR_machine_12 ?_
  exact tv_aret (pc := 15) dR_machine_15 rfl (Or.inl ⟨_, rfl⟩) (Nat.le_refl _) (Nat.le_refl _) ⟨rfl, rfl⟩
set_option maxRecDepth 100000 in
set_option maxHeartbeats 4000000 in
theorem c_R_giveValue (l : Launch) (G : tc_G) (u : tc_S) {x : Int32} {v : Nat} (hv : tc_ix x 3 v) (y : Int32) : tc_C tcx G l yR_giveValue wR_giveValue r0R_giveValue 0 0 [.ref (tc_ad G 47), .int x, .int y] u (tc_Kv (tc_up (tc_up u 54 v y) 55 v 1)) := by
  refine tw_ofV (own := "TracedCode$Run") [some (.ref (tc_ad G 47)), some (.int x), some (.int y)] (by decide +kernel) rfl (Nat.le_of_ble_eq_true rfl) (by rfl) (fun p e s m args below meth c => ?_)
  refine tv_aload_n (pc := 0) dR_giveValue_0 (by rfl) ?_
  refine tv_getR (pc := 1) 2 tb_47 (by rfl) uwR_ (by decide) wm_117 (by rfl) dR_giveValue_1 ?_
  refine tv_iload_n (pc := 4) dR_giveValue_4 (by rfl) ?_
  refine tv_iload_n (pc := 5) dR_giveValue_5 (by rfl) ?_
  refine tv_iast (pc := 6) tb_54 hv dR_giveValue_6 ?_
  refine tv_aload_n (pc := 7) dR_giveValue_7 (by rfl) ?_
  refine tv_getR (pc := 8) 3 tb_47 (by rfl) uwR_ (by decide) wm_118 (by rfl) dR_giveValue_8 ?_
  refine tv_iload_n (pc := 11) dR_giveValue_11 (by rfl) ?_
  refine tv_iconst (v := 1) (pc := 12) dR_giveValue_12 (by decide) ?_
  refine tv_zast (pc := 13) tb_55 hv (by rfl) dR_giveValue_13 ?_
  exact tv_vret (pc := 14) dR_giveValue_14 rfl (Nat.le_refl _) (Nat.le_refl _) ⟨rfl, rfl⟩
def sn_0 (k co : Nat) (u : tc_S) : tc_S := tc_up (tc_row u co (fun _ => 0) 6) k 2 0
/-- a run begins -/
def sn_begin (u : tc_S) : tc_S := tc_up (tc_up (tc_row (sn_0 51 52 (sn_0 48 49 u)) 55 (fun _ => 0) 3) 47 4 0) 47 5 0
set_option maxRecDepth 100000 in
set_option maxHeartbeats 4000000 in
theorem c_R_begin (l : Launch) (G : tc_G) (u : tc_S)  : tc_C tcx G l yR_begin wR_begin r0R_begin 0 0 [.ref (tc_ad G 47)] u (tc_Kv (sn_begin u)) := by
  refine tw_ofV (own := "TracedCode$Run") [some (.ref (tc_ad G 47)), none] (by decide +kernel) rfl (Nat.le_of_ble_eq_true rfl) (by rfl) (fun p e s m args below meth c => ?_)
  have loop : tc_V tcx G p l e r0R_begin s m args below meth c bR_begin 2 tw "TracedCode$Run" none [] (MQ below (tc_Qc tcx G (tc_Kv (sn_begin u)) s.heap.size) args s 0 0 (tc_A tcx G s.heap.size)) 0 0 (tc_row (sn_0 51 52 (sn_0 48 49 u)) 55 (fun _ => 0) 0) 16 [some (.ref (tc_ad G 47)), some (.int (nI 0))] [] := by
    refine tv_down (P := fun i => tc_V tcx G p l e r0R_begin s m args below meth c bR_begin 2 tw "TracedCode$Run" none [] (MQ below (tc_Qc tcx G (tc_Kv (sn_begin u)) s.heap.size) args s 0 0 (tc_A tcx G s.heap.size)) 0 0 (tc_row (sn_0 51 52 (sn_0 48 49 u)) 55 (fun _ => 0) i) 16 [some (.ref (tc_ad G 47)), some (.int (nI i))] []) 3 ?_ ?_
    · skip
      refine tv_iload_n (pc := 16) dR_begin_16 (by rfl) ?_
      refine tv_iconst (v := 3) (pc := 17) dR_begin_17 (by decide) ?_
      refine tv_icmp_ge (pc := 18) 34 dR_begin_18 (by decide) (fun _ => ?_) (fun h => absurd (by decide) h)
      refine tv_aload_n (pc := 34) dR_begin_34 (by rfl) ?_
      refine tv_iconst (v := 0) (pc := 35) dR_begin_35 (by decide) ?_
      refine tv_putI (ty := .int) (pc := 36) 4 tyR_ tb_47 (by rfl) uwR_ (by decide) wm_119 okR_ nmR_ (by rfl) (by decide +kernel) (by rfl) (by rfl) (by rfl) dR_begin_36 ?_
      refine tv_aload_n (pc := 39) dR_begin_39 (by rfl) ?_
      refine tv_iconst (v := 0) (pc := 40) dR_begin_40 (by decide) ?_
      refine tv_putI (ty := .int) (pc := 41) 5 tyR_ tb_47 (by rfl) uwR_ (by decide) wm_120 okR_ nmR_ (by rfl) (by decide +kernel) (by rfl) (by rfl) (by rfl) dR_begin_41 ?_
      exact tv_vret (pc := 44) dR_begin_44 rfl (Nat.le_refl _) (Nat.le_refl _) ⟨rfl, rfl⟩
    · intro i hiN ih
      have hi3 : tc_ix (nI i) 3 i := tc_ixN hiN (by decide)
      rw [← tc_row_s (i := i) (f := fun _ => 0), ← nI_1] at ih
      refine tv_iload_n (pc := 16) dR_begin_16 (by rfl) ?_
      refine tv_iconst (v := 3) (pc := 17) dR_begin_17 (by decide) ?_
      refine tv_icmp_ge (pc := 18) 34 dR_begin_18 (by decide) (fun h => absurd h (nI_lt3 hiN)) (fun _ => ?_)
      refine tv_aload_n (pc := 21) dR_begin_21 (by rfl) ?_
      refine tv_getR (pc := 22) 3 tb_47 (by rfl) uwR_ (by decide) wm_118 (by rfl) dR_begin_22 ?_
      refine tv_iload_n (pc := 25) dR_begin_25 (by rfl) ?_
      refine tv_iconst (v := 0) (pc := 26) dR_begin_26 (by decide) ?_
      refine tv_zast (pc := 27) tb_55 hi3 (by rfl) dR_begin_27 ?_
      refine tv_iinc1 (v := 1) (pc := 28) dR_begin_28 (by decide) (by rfl) ?_
      refine tv_goto (pc := 31) 16 dR_begin_31 (by decide) ?_
      exact ih
  rw [tc_row_0] at loop
  refine tv_aload_n (pc := 0) dR_begin_0 (by rfl) ?_
  refine tv_getR (pc := 1) 0 tb_47 (by rfl) uwR_ (by decide) wm_115 (by rfl) dR_begin_1 ?_
  refine tv_callVv (pc := 4) [] tb_48 (by rfl) (c_M_begin l G _ mach_48) (kVM_begin wm_312 ⟨by decide, by decide⟩) (by rfl) (Nat.le_of_ble_eq_true rfl) dR_begin_4 ⟨by decide, by decide⟩ ?_
  refine tv_aload_n (pc := 7) dR_begin_7 (by rfl) ?_
  refine tv_getR (pc := 8) 1 tb_47 (by rfl) uwR_ (by decide) wm_116 (by rfl) dR_begin_8 ?_
  refine tv_callVv (pc := 11) [] tb_51 (by rfl) (c_M_begin l G _ mach_51) (kVM_begin wm_312 ⟨by decide, by decide⟩) (by rfl) (Nat.le_of_ble_eq_true rfl) dR_begin_11 ⟨by decide, by decide⟩ ?_
  refine tv_iconst (v := 0) (pc := 14) dR_begin_14 (by decide) ?_
  refine tv_istore1 (pc := 15) dR_begin_15 (by rfl) ?_
  exact loop
/-- NAME gives a value -/
def sn_nm (P : tp_P) (q : Nat) (u : tc_S) : tc_S := if P 0 q = 5 then tc_up (tc_up u 54 (tp_n (P 1 q)) (u 49 (tp_n (P 2 q)))) 55 (tp_n (P 1 q)) 1 else u
theorem sn_nm_o {P : tp_P} {q k : Nat} {u : tc_S} (h : k ≠ 54) (h2 : k ≠ 55) : sn_nm P q u k = u k := by
  unfold sn_nm
  split
  · rw [tc_up_ne h2, tc_up_ne h]
  · rfl
theorem sm_put_o {k ou q : Nat} {x : Int32} {u : tc_S} (h : q ≠ k) (h2 : q ≠ ou) : sm_put k ou x u q = u q := by
  unfold sm_put
  split
  · rw [tc_up_ne h, tc_up_ne h2]
  · rfl
theorem sm_do_o {P : tp_P} {i k co ou q : Nat} {u : tc_S} (h : q ≠ k) (h1 : q ≠ co) (h2 : q ≠ ou) : sm_do P i k co ou u q = u q := by
  unfold sm_do
  split
  · rw [tc_up_ne h1]
  · split
    · rw [tc_up_ne h1]
    · split
      · rw [tc_up_ne h1]
      · split
        · exact sm_put_o h h2
        · rfl
/-- a step, both machines -/
def sn_1 (P P1 : tp_P) (q : Nat) (u : tc_S) : tc_S := sm_do P1 q 51 52 53 (sn_nm P q u)
def sn_2 (P P1 : tp_P) (q : Nat) (u : tc_S) : tc_S := sm_do P q 48 49 50 (sn_1 P P1 q u)
def sn_nx (n : Nat) (P P1 : tp_P) (q : Nat) (u : tc_S) : Nat := sm_nx n P q 49 (sn_1 P P1 q u)
def sn_step (n : Nat) (P P1 : tp_P) (q : Nat) (u : tc_S) : tc_S := tc_up (tc_up (sn_2 P P1 q u) 47 4 (nI (sn_nx n P P1 q u))) 47 5 (u 47 5 + 1)
theorem sn_1_o {P P1 : tp_P} {q k : Nat} {u : tc_S} (h : k < 51) : sn_1 P P1 q u k = u k := by
  unfold sn_1
  rw [sm_do_o (by omega) (by omega) (by omega), sn_nm_o (by omega) (by omega)]
theorem sn_2_o {P P1 : tp_P} {q k : Nat} {u : tc_S} (h : k < 48) : sn_2 P P1 q u k = u k := by
  unfold sn_2
  rw [sm_do_o (by omega) (by omega) (by omega), sn_1_o (by omega)]
theorem pv_of {u v : tc_S} {b : Nat} (h : ∀ j, j < 4 → v (b + j) = u (b + j)) : ∀ j, j < 4 → pv v b j = pv u b j := fun j hj => by unfold pv; rw [h j hj]
theorem tp_line_of {P Q : tp_P} {i : Nat} (h : ∀ j, j < 4 → Q j i = P j i) (hl : tp_line P i) : tp_line Q i := by
  unfold tp_line at hl ⊢
  rw [h 0 (by omega), h 1 (by omega), h 2 (by omega), h 3 (by omega)]; exact hl
theorem sm_do_P {P Q : tp_P} {i k co ou : Nat} {u : tc_S} (h : ∀ j, j < 4 → Q j i = P j i) : sm_do Q i k co ou u = sm_do P i k co ou u := by
  unfold sm_do
  rw [h 0 (by omega), h 1 (by omega), h 2 (by omega), h 3 (by omega)]
theorem sm_nx_P {n : Nat} {P Q : tp_P} {i co : Nat} {u : tc_S} (h : ∀ j, j < 4 → Q j i = P j i) : sm_nx n Q i co u = sm_nx n P i co u := by
  unfold sm_nx tp_tg
  rw [h 0 (by omega), h 1 (by omega), h 2 (by omega)]
set_option maxRecDepth 100000 in
set_option maxHeartbeats 4000000 in
theorem c_R_advance0 (l : Launch) (G : tc_G) (u : tc_S) {n : Nat} (hs : u 1 1 = nI n) (h : nI n ≤ u 47 4 ∨ ¬ u 47 5 < 200) : tc_C tcx G l yR_advance wR_advance r0R_advance 0 0 [.ref (tc_ad G 47), .ref (tc_ad G 1), .ref (tc_ad G 7)] u (tc_Ki (-1) u) := by
  refine tw_ofV (own := "TracedCode$Run") [some (.ref (tc_ad G 47)), some (.ref (tc_ad G 1)), some (.ref (tc_ad G 7))] (by decide +kernel) rfl (Nat.le_of_ble_eq_true rfl) (by rfl) (fun p e s m args below meth c => ?_)
  refine tv_aload_n (pc := 0) dR_advance_0 (by rfl) ?_
  refine tv_getI (pc := 1) 4 tb_47 (by rfl) uwR_ (by decide) wm_119 (by rfl) dR_advance_1 ?_
  refine tv_aload_n (pc := 4) dR_advance_4 (by rfl) ?_
  refine tv_callVi (pc := 5) [] tb_1 (by rfl) (c_C_size l G u code_1) (kVC_size wm_551 ⟨by decide, by decide⟩) (by rfl) (Nat.le_of_ble_eq_true rfl) dR_advance_5 ⟨by decide, by decide⟩ ?_
  refine tv_icmp_ge (pc := 8) 21 dR_advance_8 (by decide) (fun h8 => ?_) (fun h8 => ?_)
  · skip
    refine tv_iconst (v := (-1)) (pc := 21) dR_advance_21 (by decide) ?_
    exact tv_iret (pc := 22) dR_advance_22 rfl (Nat.le_refl _) (Nat.le_refl _) ⟨rfl, rfl⟩
  · skip
    have ht : ¬ u 47 5 < 200 := h.resolve_left (fun q => h8 (by rw [hs]; exact q))
    refine tv_aload_n (pc := 11) dR_advance_11 (by rfl) ?_
    refine tv_getI (pc := 12) 5 tb_47 (by rfl) uwR_ (by decide) wm_120 (by rfl) dR_advance_12 ?_
    refine tv_sipush (v := 200) (pc := 15) dR_advance_15 (by decide) ?_
    refine tv_icmp_lt (pc := 18) 23 dR_advance_18 (by decide) (fun h => absurd h ht) (fun _ => ?_)
    refine tv_iconst (v := (-1)) (pc := 21) dR_advance_21 (by decide) ?_
    exact tv_iret (pc := 22) dR_advance_22 rfl (Nat.le_refl _) (Nat.le_refl _) ⟨rfl, rfl⟩
set_option maxRecDepth 100000 in
set_option maxHeartbeats 4000000 in
theorem c_R_advance (l : Launch) (G : tc_G) (u : tc_S) {n q : Nat} (hs : u 1 1 = nI n) (hs7 : u 7 1 = nI n) (hn : n ≤ 16) (hq : u 47 4 = nI q) (hqn : q < n) (ht : u 47 5 < 200) (hl : tp_line (pv u 3) q) (hl1 : tp_line (pv u 9) q) (hc : ¬ u 48 2 < 0) (hc1 : ¬ u 51 2 < 0) : tc_C tcx G l yR_advance wR_advance r0R_advance 0 0 [.ref (tc_ad G 47), .ref (tc_ad G 1), .ref (tc_ad G 7)] u (tc_Ki (nI (sn_nx n (pv u 3) (pv u 9) q u)) (sn_step n (pv u 3) (pv u 9) q u)) := by
  refine tw_ofV (own := "TracedCode$Run") [some (.ref (tc_ad G 47)), some (.ref (tc_ad G 1)), some (.ref (tc_ad G 7))] (by decide +kernel) rfl (Nat.le_of_ble_eq_true rfl) (by rfl) (fun p e s m args below meth c => ?_)
  have hq16 : tc_ix (nI q) 16 q := tc_ixN (by omega) (by decide)
  have p9 : ∀ j, j < 4 → pv (sn_nm (pv u 3) q u) 9 j q = pv u 9 j q := fun j hj => by unfold pv; rw [sn_nm_o (by omega) (by omega)]
  have p3 : ∀ j, j < 4 → pv (sn_1 (pv u 3) (pv u 9) q u) 3 j q = pv u 3 j q := fun j hj => by unfold pv; rw [sn_1_o (by omega)]
  have e1 : sm_do (pv (sn_nm (pv u 3) q u) 9) q 51 52 53 (sn_nm (pv u 3) q u) = sn_1 (pv u 3) (pv u 9) q u := sm_do_P p9
  have e2 : sm_do (pv (sn_1 (pv u 3) (pv u 9) q u) 3) q 48 49 50 (sn_1 (pv u 3) (pv u 9) q u) = sn_2 (pv u 3) (pv u 9) q u := sm_do_P p3
  have e3 : sm_nx n (pv (sn_1 (pv u 3) (pv u 9) q u) 3) q 49 (sn_1 (pv u 3) (pv u 9) q u) = sn_nx n (pv u 3) (pv u 9) q u := sm_nx_P p3
  have k1 := c_M_perform l G (sn_nm (pv u 3) q u) mach_51 (by decide) (by rw [sn_nm_o (by decide) (by decide)]; exact hc1) code_7 (n := n) (i := q) (by rw [sn_nm_o (by decide) (by decide)]; exact hs7) hn (by omega) (tp_line_of p9 hl1)
  have k2 := c_M_perform l G (sn_1 (pv u 3) (pv u 9) q u) mach_48 (by decide) (by rw [sn_1_o (by decide)]; exact hc) code_1 (n := n) (i := q) (by rw [sn_1_o (by decide)]; exact hs) hn (by omega) (tp_line_of p3 hl)
  rw [e1] at k1
  rw [e2, e3] at k2
  have fin : tc_V tcx G p l e r0R_advance s m args below meth c bR_advance 3 tw "TracedCode$Run" (some .int) [] (MQ below (tc_Qc tcx G (tc_Ki (nI (sn_nx n (pv u 3) (pv u 9) q u)) (sn_step n (pv u 3) (pv u 9) q u)) s.heap.size) args s 0 0 (tc_A tcx G s.heap.size)) 0 0 (sn_nm (pv u 3) q u) 64 [some (.ref (tc_ad G 47)), some (.ref (tc_ad G 1)), some (.ref (tc_ad G 7))] [] := by
    refine tv_aload_n (pc := 64) dR_advance_64 (by rfl) ?_
    refine tv_getR (pc := 65) 1 tb_47 (by rfl) uwR_ (by decide) wm_116 (by rfl) dR_advance_65 ?_
    refine tv_aload_n (pc := 68) dR_advance_68 (by rfl) ?_
    refine tv_aload_n (pc := 69) dR_advance_69 (by rfl) ?_
    refine tv_getI (pc := 70) 4 tb_47 (by rfl) uwR_ (by decide) wm_119 (by rfl) dR_advance_70 ?_
    rw [sn_nm_o (k := 47) (by decide) (by decide), hq]
    refine tv_callVi (pc := 73) [_, _] tb_51 (by rfl) k1 (kVM_perform wm_562 ⟨by decide, by decide⟩) (by rfl) (Nat.le_of_ble_eq_true rfl) dR_advance_73 ⟨by decide, by decide⟩ ?_
    refine tv_pop (pc := 76) dR_advance_76 (by rfl) ?_
    refine tv_aload_n (pc := 77) dR_advance_77 (by rfl) ?_
    refine tv_aload_n (pc := 78) dR_advance_78 (by rfl) ?_
    refine tv_getR (pc := 79) 0 tb_47 (by rfl) uwR_ (by decide) wm_115 (by rfl) dR_advance_79 ?_
    refine tv_aload_n (pc := 82) dR_advance_82 (by rfl) ?_
    refine tv_aload_n (pc := 83) dR_advance_83 (by rfl) ?_
    refine tv_getI (pc := 84) 4 tb_47 (by rfl) uwR_ (by decide) wm_119 (by rfl) dR_advance_84 ?_
    rw [sn_1_o (k := 47) (by decide), hq]
    refine tv_callVi (pc := 87) [_, _] tb_48 (by rfl) k2 (kVM_perform wm_562 ⟨by decide, by decide⟩) (by rfl) (Nat.le_of_ble_eq_true rfl) dR_advance_87 ⟨by decide, by decide⟩ ?_
    refine tv_putI (ty := .int) (pc := 90) 4 tyR_ tb_47 (by rfl) uwR_ (by decide) wm_119 okR_ nmR_ (by rfl) (by decide +kernel) (by rfl) (by rfl) (by rfl) dR_advance_90 ?_
    refine tv_aload_n (pc := 93) dR_advance_93 (by rfl) ?_
    refine tv_dup (pc := 94) dR_advance_94 (by rfl) ?_
    refine tv_getI (pc := 95) 5 tb_47 (by rfl) uwR_ (by decide) wm_120 (by rfl) dR_advance_95 ?_
    rw [tc_up_at (by decide), sn_2_o (k := 47) (by decide)]
    refine tv_iconst (v := 1) (pc := 98) dR_advance_98 (by decide) ?_
    refine tv_iadd (pc := 99) dR_advance_99 ?_
    refine tv_putI (ty := .int) (pc := 100) 5 tyR_ tb_47 (by rfl) uwR_ (by decide) wm_120 okR_ nmR_ (by rfl) (by decide +kernel) (by rfl) (by rfl) (by rfl) dR_advance_100 ?_
    refine tv_aload_n (pc := 103) dR_advance_103 (by rfl) ?_
    refine tv_getI (pc := 104) 4 tb_47 (by rfl) uwR_ (by decide) wm_119 (by rfl) dR_advance_104 ?_
    rw [tc_up_at (k := 47) (i := 5) (j := 4) (by decide), tc_up_self]
    exact tv_iret (pc := 107) dR_advance_107 rfl (Nat.le_refl _) (Nat.le_refl _) ⟨rfl, rfl⟩
  refine tv_aload_n (pc := 0) dR_advance_0 (by rfl) ?_
  refine tv_getI (pc := 1) 4 tb_47 (by rfl) uwR_ (by decide) wm_119 (by rfl) dR_advance_1 ?_
  refine tv_aload_n (pc := 4) dR_advance_4 (by rfl) ?_
  refine tv_callVi (pc := 5) [] tb_1 (by rfl) (c_C_size l G u code_1) (kVC_size wm_551 ⟨by decide, by decide⟩) (by rfl) (Nat.le_of_ble_eq_true rfl) dR_advance_5 ⟨by decide, by decide⟩ ?_
  refine tv_icmp_ge (pc := 8) 21 dR_advance_8 (by decide) (fun h => absurd h (by rw [hq, hs]; exact nI_ge hqn (by omega))) (fun _ => ?_)
  refine tv_aload_n (pc := 11) dR_advance_11 (by rfl) ?_
  refine tv_getI (pc := 12) 5 tb_47 (by rfl) uwR_ (by decide) wm_120 (by rfl) dR_advance_12 ?_
  refine tv_sipush (v := 200) (pc := 15) dR_advance_15 (by decide) ?_
  refine tv_icmp_lt (pc := 18) 23 dR_advance_18 (by decide) (fun _ => ?_) (fun h => absurd ht h)
  refine tv_aload_n (pc := 23) dR_advance_23 (by rfl) ?_
  refine tv_aload_n (pc := 24) dR_advance_24 (by rfl) ?_
  refine tv_getI (pc := 25) 4 tb_47 (by rfl) uwR_ (by decide) wm_119 (by rfl) dR_advance_25 ?_
  rw [hq]
  refine tv_callVi (pc := 28) [_] tb_1 (by rfl) (c_C_kind l G u code_1 hq16) (kVC_kind wm_552 ⟨by decide, by decide⟩) (by rfl) (Nat.le_of_ble_eq_true rfl) dR_advance_28 ⟨by decide, by decide⟩ ?_
  refine tv_iconst (v := 5) (pc := 31) dR_advance_31 (by decide) ?_
  refine tv_icmp_ne (pc := 32) 64 dR_advance_32 (by decide) (fun h32 => ?_) (fun h32 => ?_)
  · skip
    first
    | (have h5 : ¬ pv u 3 0 q = 5 := by assumption
       rw [show sn_nm (pv u 3) q u = u from by unfold sn_nm; rw [if_neg h5]] at fin
       exact fin)
    | (have h5 : pv u 3 0 q = 5 := by assumption
       rw [show sn_nm (pv u 3) q u = tc_up (tc_up u 54 a (u 49 b2)) 55 a 1 from by unfold sn_nm; rw [if_pos h5, n1, n2]] at fin
       exact fin)
  · skip
    have h5 : pv u 3 0 q = 5 := by assumption
    obtain ⟨a, ha, ea⟩ := hl.2.2.2.2.2 h5
    obtain ⟨b2, hb2, eb⟩ := hl.2.2.1 (Or.inr (Or.inr h5))
    have n1 : tp_n (pv u 3 1 q) = a := by rw [ea]; exact nI_clamp (by omega)
    have n2 : tp_n (pv u 3 2 q) = b2 := by rw [eb]; exact nI_clamp (by omega)
    have x1 : tc_ix (pv u 3 1 q) 3 a := by rw [ea]; exact tc_ixN ha (by decide)
    have x2 : tc_ix (pv u 3 2 q) 6 b2 := by rw [eb]; exact tc_ixN hb2 (by decide)
    refine tv_aload_n (pc := 35) dR_advance_35 (by rfl) ?_
    refine tv_aload_n (pc := 36) dR_advance_36 (by rfl) ?_
    refine tv_aload_n (pc := 37) dR_advance_37 (by rfl) ?_
    refine tv_getI (pc := 38) 4 tb_47 (by rfl) uwR_ (by decide) wm_119 (by rfl) dR_advance_38 ?_
    refine tv_iconst (v := 1) (pc := 41) dR_advance_41 (by decide) ?_
    rw [hq]
    refine tv_callVi (pc := 42) [_, _] tb_1 (by rfl) (c_C_number l G u code_1 hq16 (j := 1) ⟨by decide, by decide, by decide⟩) (kVC_number wm_553 ⟨by decide, by decide⟩) (by rfl) (Nat.le_of_ble_eq_true rfl) dR_advance_42 ⟨by decide, by decide⟩ ?_
    refine tv_aload_n (pc := 45) dR_advance_45 (by rfl) ?_
    refine tv_getR (pc := 46) 0 tb_47 (by rfl) uwR_ (by decide) wm_115 (by rfl) dR_advance_46 ?_
    refine tv_aload_n (pc := 49) dR_advance_49 (by rfl) ?_
    refine tv_aload_n (pc := 50) dR_advance_50 (by rfl) ?_
    refine tv_getI (pc := 51) 4 tb_47 (by rfl) uwR_ (by decide) wm_119 (by rfl) dR_advance_51 ?_
    refine tv_iconst (v := 2) (pc := 54) dR_advance_54 (by decide) ?_
    rw [hq]
    refine tv_callVi (pc := 55) [_, _] tb_1 (by rfl) (c_C_number l G u code_1 hq16 (j := 2) ⟨by decide, by decide, by decide⟩) (kVC_number wm_553 ⟨by decide, by decide⟩) (by rfl) (Nat.le_of_ble_eq_true rfl) dR_advance_55 ⟨by decide, by decide⟩ ?_
    refine tv_callVi (pc := 58) [_] tb_48 (by rfl) (c_M_content l G u mach_48 x2) (kVM_content wm_554 ⟨by decide, by decide⟩) (by rfl) (Nat.le_of_ble_eq_true rfl) dR_advance_58 ⟨by decide, by decide⟩ ?_
    refine tv_callVv (pc := 61) [_, _] tb_47 (by rfl) (c_R_giveValue l G u x1 _) (kVR_giveValue wm_558 ⟨by decide, by decide⟩) (by rfl) (Nat.le_of_ble_eq_true rfl) dR_advance_61 ⟨by decide, by decide⟩ ?_
    first
    | (have h5 : ¬ pv u 3 0 q = 5 := by assumption
       rw [show sn_nm (pv u 3) q u = u from by unfold sn_nm; rw [if_neg h5]] at fin
       exact fin)
    | (have h5 : pv u 3 0 q = 5 := by assumption
       rw [show sn_nm (pv u 3) q u = tc_up (tc_up u 54 a (u 49 b2)) 55 a 1 from by unfold sn_nm; rw [if_pos h5, n1, n2]] at fin
       exact fin)
end
section
set_option maxRecDepth 100000 in
set_option maxHeartbeats 4000000 in
theorem c_T_isBelow (l : Launch) (G : tc_G) (u : tc_S) (x b : Int32) : tc_C tcx G l yT_isBelow wT_isBelow r0T_isBelow 0 0 [.int x, .int b] u (tc_Ki (tp_b (¬ x < 0 ∧ ¬ b ≤ x)) u) := by
  refine tw_ofV (own := "TracedCode") [some (.int x), some (.int b)] (by decide +kernel) rfl (Nat.le_of_ble_eq_true rfl) (by rfl) (fun p e s m args below meth c => ?_)
  refine tv_iload_n (pc := 0) dT_isBelow_0 (by rfl) ?_
  refine tv_if_lt (pc := 1) 13 dT_isBelow_1 (by decide) (fun h1 => ?_) (fun h1 => ?_)
  · skip
    refine tv_iconst (v := 0) (pc := 13) dT_isBelow_13 (by decide) ?_
    exact tv_zret (pc := 14) dT_isBelow_14 rfl (Nat.le_refl _) (Nat.le_refl _) (by rfl)  (by first | exact ⟨by rw [tp_b_t ⟨by assumption, by assumption⟩], rfl⟩ | exact ⟨by rw [tp_b_f (fun q => q.1 (by assumption))], rfl⟩ | exact ⟨by rw [tp_b_f (fun q => q.2 (by assumption))], rfl⟩)
  · skip
    refine tv_iload_n (pc := 4) dT_isBelow_4 (by rfl) ?_
    refine tv_iload_n (pc := 5) dT_isBelow_5 (by rfl) ?_
    refine tv_icmp_ge (pc := 6) 13 dT_isBelow_6 (by decide) (fun h6 => ?_) (fun h6 => ?_)
    · skip
      refine tv_iconst (v := 0) (pc := 13) dT_isBelow_13 (by decide) ?_
      exact tv_zret (pc := 14) dT_isBelow_14 rfl (Nat.le_refl _) (Nat.le_refl _) (by rfl)  (by first | exact ⟨by rw [tp_b_t ⟨by assumption, by assumption⟩], rfl⟩ | exact ⟨by rw [tp_b_f (fun q => q.1 (by assumption))], rfl⟩ | exact ⟨by rw [tp_b_f (fun q => q.2 (by assumption))], rfl⟩)
    · skip
      refine tv_iconst (v := 1) (pc := 9) dT_isBelow_9 (by decide) ?_
      refine tv_goto (pc := 10) 14 dT_isBelow_10 (by decide) ?_
      exact tv_zret (pc := 14) dT_isBelow_14 rfl (Nat.le_refl _) (Nat.le_refl _) (by rfl)  (by first | exact ⟨by rw [tp_b_t ⟨by assumption, by assumption⟩], rfl⟩ | exact ⟨by rw [tp_b_f (fun q => q.1 (by assumption))], rfl⟩ | exact ⟨by rw [tp_b_f (fun q => q.2 (by assumption))], rfl⟩)
set_option maxRecDepth 100000 in
set_option maxHeartbeats 4000000 in
theorem c_T_isRegister (l : Launch) (G : tc_G) (u : tc_S) (x : Int32) : tc_C tcx G l yT_isRegister wT_isRegister r0T_isRegister 0 0 [.int x] u (tc_Ki (tp_b (¬ x < 0 ∧ ¬ 6 ≤ x)) u) := by
  refine tw_ofV (own := "TracedCode") [some (.int x)] (by decide +kernel) rfl (Nat.le_of_ble_eq_true rfl) (by rfl) (fun p e s m args below meth c => ?_)
  refine tv_iload_n (pc := 0) dT_isRegister_0 (by rfl) ?_
  refine tv_bipush (v := 6) (pc := 1) dT_isRegister_1 (by decide) ?_
  refine tv_callSi (pc := 3) [_, _] (c_T_isBelow l G u _ _) (kST_isBelow wm_329 ⟨by decide, by decide⟩) (by rfl) (Nat.le_of_ble_eq_true rfl) dT_isRegister_3 ⟨by decide, by decide⟩ ?_
  exact tv_zret (pc := 6) dT_isRegister_6 rfl (Nat.le_refl _) (Nat.le_refl _) tp_b_z ⟨rfl, rfl⟩
set_option maxRecDepth 100000 in
set_option maxHeartbeats 4000000 in
theorem c_T_isVariable (l : Launch) (G : tc_G) (u : tc_S) (x : Int32) : tc_C tcx G l yT_isVariable wT_isVariable r0T_isVariable 0 0 [.int x] u (tc_Ki (tp_b (¬ x < 0 ∧ ¬ 3 ≤ x)) u) := by
  refine tw_ofV (own := "TracedCode") [some (.int x)] (by decide +kernel) rfl (Nat.le_of_ble_eq_true rfl) (by rfl) (fun p e s m args below meth c => ?_)
  refine tv_iload_n (pc := 0) dT_isVariable_0 (by rfl) ?_
  refine tv_iconst (v := 3) (pc := 1) dT_isVariable_1 (by decide) ?_
  refine tv_callSi (pc := 2) [_, _] (c_T_isBelow l G u _ _) (kST_isBelow wm_329 ⟨by decide, by decide⟩) (by rfl) (Nat.le_of_ble_eq_true rfl) dT_isVariable_2 ⟨by decide, by decide⟩ ?_
  exact tv_zret (pc := 5) dT_isVariable_5 rfl (Nat.le_refl _) (Nat.le_refl _) tp_b_z ⟨rfl, rfl⟩
set_option maxRecDepth 100000 in
set_option maxHeartbeats 4000000 in
theorem c_T_requireState (l : Launch) (G : tc_G) (u : tc_S) {x : Int32} (hx : ¬ x = 0) : tc_C tcx G l yT_requireState wT_requireState r0T_requireState 0 0 [.int x] u (tc_Kv u) := by
  refine tw_ofV (own := "TracedCode") [some (.int x)] (by decide +kernel) rfl (Nat.le_of_ble_eq_true rfl) (by rfl) (fun p e s m args below meth c => ?_)
  refine tv_iload_n (pc := 0) dT_requireState_0 (by rfl) ?_
  refine tv_if_ne (pc := 1) 12 dT_requireState_1 (by decide) (fun _ => ?_) (fun h => absurd h hx)
  exact tv_vret (pc := 12) dT_requireState_12 rfl (Nat.le_refl _) (Nat.le_refl _) ⟨rfl, rfl⟩
set_option maxRecDepth 1000000 in
set_option maxHeartbeats 4000000 in
theorem t_T_requireState (l : Launch) (hl : l.stackTraces = false) (G : tc_G) (u : tc_S) : tc_T tcx G l yT_requireState wT_requireState r1T_requireState 1 6 [.int 0] u u "java/lang/IllegalStateException" :=
  tc_require (names := ["java/lang/RuntimeException", "java/lang/Exception"]) (tgt := 12) (by decide +kernel) rfl dT_requireState_0 dT_requireState_1 (by decide) dT_requireState_4 dT_requireState_7 dT_requireState_8 dT_requireState_11 (List.mem_cons_of_mem _ wm_407) (List.mem_cons_of_mem _ wm_14) (List.mem_cons_of_mem _ wm_408) (by decide +kernel) (by decide +kernel) (by decide +kernel) hl (by decide) (by decide) (by decide) (by decide)
set_option maxRecDepth 100000 in
set_option maxHeartbeats 4000000 in
theorem c_T_requireArgument (l : Launch) (G : tc_G) (u : tc_S) {x : Int32} (hx : ¬ x = 0) : tc_C tcx G l yT_requireArgument wT_requireArgument r0T_requireArgument 0 0 [.int x] u (tc_Kv u) := by
  refine tw_ofV (own := "TracedCode") [some (.int x)] (by decide +kernel) rfl (Nat.le_of_ble_eq_true rfl) (by rfl) (fun p e s m args below meth c => ?_)
  refine tv_iload_n (pc := 0) dT_requireArgument_0 (by rfl) ?_
  refine tv_if_ne (pc := 1) 12 dT_requireArgument_1 (by decide) (fun _ => ?_) (fun h => absurd h hx)
  exact tv_vret (pc := 12) dT_requireArgument_12 rfl (Nat.le_refl _) (Nat.le_refl _) ⟨rfl, rfl⟩
set_option maxRecDepth 1000000 in
set_option maxHeartbeats 4000000 in
theorem t_T_requireArgument (l : Launch) (hl : l.stackTraces = false) (G : tc_G) (u : tc_S) : tc_T tcx G l yT_requireArgument wT_requireArgument r1T_requireArgument 1 6 [.int 0] u u "java/lang/IllegalArgumentException" :=
  tc_require (names := ["java/lang/RuntimeException", "java/lang/Exception"]) (tgt := 12) (by decide +kernel) rfl dT_requireArgument_0 dT_requireArgument_1 (by decide) dT_requireArgument_4 dT_requireArgument_7 dT_requireArgument_8 dT_requireArgument_11 (List.mem_cons_of_mem _ wm_335) (List.mem_cons_of_mem _ wm_13) (List.mem_cons_of_mem _ wm_336) (by decide +kernel) (by decide +kernel) (by decide +kernel) hl (by decide) (by decide) (by decide) (by decide)
set_option maxRecDepth 100000 in
set_option maxHeartbeats 4000000 in
theorem c_T_requireIndex (l : Launch) (G : tc_G) (u : tc_S) {x : Int32} (hx : ¬ x = 0) : tc_C tcx G l yT_requireIndex wT_requireIndex r0T_requireIndex 0 0 [.int x] u (tc_Kv u) := by
  refine tw_ofV (own := "TracedCode") [some (.int x)] (by decide +kernel) rfl (Nat.le_of_ble_eq_true rfl) (by rfl) (fun p e s m args below meth c => ?_)
  refine tv_iload_n (pc := 0) dT_requireIndex_0 (by rfl) ?_
  refine tv_if_ne (pc := 1) 12 dT_requireIndex_1 (by decide) (fun _ => ?_) (fun h => absurd h hx)
  exact tv_vret (pc := 12) dT_requireIndex_12 rfl (Nat.le_refl _) (Nat.le_refl _) ⟨rfl, rfl⟩
set_option maxRecDepth 1000000 in
set_option maxHeartbeats 4000000 in
theorem t_T_requireIndex (l : Launch) (hl : l.stackTraces = false) (G : tc_G) (u : tc_S) : tc_T tcx G l yT_requireIndex wT_requireIndex r1T_requireIndex 1 6 [.int 0] u u "java/lang/IndexOutOfBoundsException" :=
  tc_require (names := ["java/lang/RuntimeException", "java/lang/Exception"]) (tgt := 12) (by decide +kernel) rfl dT_requireIndex_0 dT_requireIndex_1 (by decide) dT_requireIndex_4 dT_requireIndex_7 dT_requireIndex_8 dT_requireIndex_11 (List.mem_cons_of_mem _ wm_491) (List.mem_cons_of_mem _ wm_17) (List.mem_cons_of_mem _ wm_492) (by decide +kernel) (by decide +kernel) (by decide +kernel) hl (by decide) (by decide) (by decide) (by decide)
set_option maxRecDepth 100000 in
set_option maxHeartbeats 4000000 in
theorem c_T_requireFound (l : Launch) (G : tc_G) (u : tc_S) {x : Int32} (hx : ¬ x = 0) : tc_C tcx G l yT_requireFound wT_requireFound r0T_requireFound 0 0 [.int x] u (tc_Kv u) := by
  refine tw_ofV (own := "TracedCode") [some (.int x)] (by decide +kernel) rfl (Nat.le_of_ble_eq_true rfl) (by rfl) (fun p e s m args below meth c => ?_)
  refine tv_iload_n (pc := 0) dT_requireFound_0 (by rfl) ?_
  refine tv_if_ne (pc := 1) 12 dT_requireFound_1 (by decide) (fun _ => ?_) (fun h => absurd h hx)
  exact tv_vret (pc := 12) dT_requireFound_12 rfl (Nat.le_refl _) (Nat.le_refl _) ⟨rfl, rfl⟩
set_option maxRecDepth 1000000 in
set_option maxHeartbeats 4000000 in
theorem t_T_requireFound (l : Launch) (hl : l.stackTraces = false) (G : tc_G) (u : tc_S) : tc_T tcx G l yT_requireFound wT_requireFound r1T_requireFound 1 6 [.int 0] u u "java/util/NoSuchElementException" :=
  tc_require (names := ["java/lang/RuntimeException", "java/lang/Exception"]) (tgt := 12) (by decide +kernel) rfl dT_requireFound_0 dT_requireFound_1 (by decide) dT_requireFound_4 dT_requireFound_7 dT_requireFound_8 dT_requireFound_11 (List.mem_cons_of_mem _ wm_637) (List.mem_cons_of_mem _ wm_18) (List.mem_cons_of_mem _ wm_638) (by decide +kernel) (by decide +kernel) (by decide +kernel) hl (by decide) (by decide) (by decide) (by decide)
end
section
theorem tp_b_1 {p : Prop} (h : p) : ¬ tp_b p = 0 := by rw [tp_b_t h]; decide
theorem tp_b_p {p : Prop} (h : ¬ tp_b p = 0) : p := Classical.byContradiction fun q => h (tp_b_f q)
theorem tp_b_q {p : Prop} (h : tp_b p = 0) : ¬ p := fun q => tp_b_1 q h
/-- an int that is not below 0 and below a bound -/
def tq_b (b x : Int32) : Prop := ¬ x < 0 ∧ ¬ b ≤ x
theorem tq_ix {b : Nat} (hb : b < 2 ^ 31) {x : Int32} (h : tq_b (nI b) x) : ∃ a, a < b ∧ x = nI a := by
  obtain ⟨j, hj, e⟩ := nI_of h.1
  refine ⟨j, Classical.byContradiction fun q => h.2 ?_, e⟩
  rw [e]
  exact nI_le (by omega) hj
theorem tq_of {b a : Nat} (hb : b < 2 ^ 31) (h : a < b) : tq_b (nI b) (nI a) := ⟨nI_pos (by omega), nI_ge h hb⟩
set_option maxRecDepth 100000 in
set_option maxHeartbeats 4000000 in
theorem c_T_isPoint (l : Launch) (G : tc_G) (u : tc_S) {n : Nat} (hs : u 7 1 = nI n) (x : Int32) : tc_C tcx G l yT_isPoint wT_isPoint r0T_isPoint 0 0 [.ref (tc_ad G 0), .int x] u (tc_Ki (tp_b (¬ x < 0 ∧ ¬ nI (n + 1) ≤ x)) u) := by
  refine tw_ofV (own := "TracedCode") [some (.ref (tc_ad G 0)), some (.int x)] (by decide +kernel) rfl (Nat.le_of_ble_eq_true rfl) (by rfl) (fun p e s m args below meth c => ?_)
  refine tv_iload_n (pc := 0) dT_isPoint_0 (by rfl) ?_
  refine tv_aload_n (pc := 1) dT_isPoint_1 (by rfl) ?_
  refine tv_getR (pc := 2) 1 tb_0 (by rfl) uwT_ (by decide) wm_136 (by rfl) dT_isPoint_2 ?_
  refine tv_callVi (pc := 5) [] tb_7 (by rfl) (c_C_size l G u code_7) (kVC_size wm_403 ⟨by decide, by decide⟩) (by rfl) (Nat.le_of_ble_eq_true rfl) dT_isPoint_5 ⟨by decide, by decide⟩ ?_
  refine tv_iconst (v := 1) (pc := 8) dT_isPoint_8 (by decide) ?_
  refine tv_iadd (pc := 9) dT_isPoint_9 ?_
  rw [hs, nI_1]
  refine tv_callSi (pc := 10) [_, _] (c_T_isBelow l G u _ _) (kST_isBelow wm_329 ⟨by decide, by decide⟩) (by rfl) (Nat.le_of_ble_eq_true rfl) dT_isPoint_10 ⟨by decide, by decide⟩ ?_
  exact tv_zret (pc := 13) dT_isPoint_13 rfl (Nat.le_refl _) (Nat.le_refl _) tp_b_z ⟨rfl, rfl⟩
set_option maxRecDepth 100000 in
set_option maxHeartbeats 4000000 in
theorem c_T_requireShortProgram (l : Launch) (G : tc_G) (u : tc_S) (hm : ¬ u 0 5 = 0) : tc_C tcx G l yT_requireShortProgram wT_requireShortProgram r0T_requireShortProgram 0 0 [.ref (tc_ad G 0)] u (tc_Kv u) := by
  refine tw_ofV (own := "TracedCode") [some (.ref (tc_ad G 0))] (by decide +kernel) rfl (Nat.le_of_ble_eq_true rfl) (by rfl) (fun p e s m args below meth c => ?_)
  refine tv_aload_n (pc := 0) dT_requireShortProgram_0 (by rfl) ?_
  refine tv_getI (pc := 1) 5 tb_0 (by rfl) uwT_ (by decide) wm_140 (by rfl) dT_requireShortProgram_1 ?_
  refine tv_callSv (pc := 4) [_] (c_T_requireState l G u hm) (kST_requireState wm_404 ⟨by decide, by decide⟩) (by rfl) (Nat.le_of_ble_eq_true rfl) dT_requireShortProgram_4 ⟨by decide, by decide⟩ ?_
  exact tv_vret (pc := 7) dT_requireShortProgram_7 rfl (Nat.le_refl _) (Nat.le_refl _) ⟨rfl, rfl⟩
set_option maxRecDepth 100000 in
set_option maxHeartbeats 4000000 in
theorem t_T_requireShortProgram (l : Launch) (hl : l.stackTraces = false) (G : tc_G) (u : tc_S) (hm : u 0 5 = 0) : tc_T tcx G l yT_requireShortProgram wT_requireShortProgram r1T_requireShortProgram 1 6 [.ref (tc_ad G 0)] u u "java/lang/IllegalStateException" := by
  refine tw_ofT (own := "TracedCode") [some (.ref (tc_ad G 0))] (by decide +kernel) rfl (Nat.le_of_ble_eq_true rfl) (by rfl) (fun p e s m args below meth c => ?_)
  refine tv_aload_n (pc := 0) dT_requireShortProgram_0 (by rfl) ?_
  refine tv_getI (pc := 1) 5 tb_0 (by rfl) uwT_ (by decide) wm_140 (by rfl) dT_requireShortProgram_1 ?_
  rw [hm]
  exact tv_thrS (pc := 4) [_] (t_T_requireState l hl G u) (kS1T_requireState wm_404 ⟨by decide, by decide⟩) (by rfl) (Nat.le_of_ble_eq_true rfl) dT_requireShortProgram_4 ⟨by decide, by decide⟩ (by decide) (by decide)
/-- a line more -/
def st_app (n : Nat) (k a1 a2 a3 : Int32) (u : tc_S) : tc_S := tc_up (tc_up (tc_up (tc_up (tc_up (tc_up u 0 5 0) (3 + 0) n k) (3 + 1) n a1) (3 + 2) n a2) (3 + 3) n a3) 1 1 (nI (n + 1))
set_option maxRecDepth 100000 in
set_option maxHeartbeats 4000000 in
theorem c_T_newLine (l : Launch) (G : tc_G) (u : tc_S) {n : Nat} (hs : u 1 1 = nI n) (hn : n < 16) (k a1 a2 a3 : Int32) : tc_C tcx G l yT_newLine wT_newLine r0T_newLine 0 0 [.ref (tc_ad G 0), .int k, .int a1, .int a2, .int a3] u (tc_Ki (nI n) (st_app n k a1 a2 a3 u)) := by
  refine tw_ofV (own := "TracedCode") [some (.ref (tc_ad G 0)), some (.int k), some (.int a1), some (.int a2), some (.int a3)] (by decide +kernel) rfl (Nat.le_of_ble_eq_true rfl) (by rfl) (fun p e s m args below meth c => ?_)
  have e1 : (tc_up u 0 5 0) 1 = u 1 := tc_up_ne (by decide)
  have ka := c_C_append l G (tc_up u 0 5 0) code_1 k a1 a2 a3 (i := n) (by rw [e1, hs]; exact tc_ixN hn (by decide))
  rw [e1, hs, nI_1] at ka
  refine tv_aload_n (pc := 0) dT_newLine_0 (by rfl) ?_
  refine tv_getR (pc := 1) 0 tb_0 (by rfl) uwT_ (by decide) wm_135 (by rfl) dT_newLine_1 ?_
  refine tv_callVi (pc := 4) [] tb_1 (by rfl) (c_C_size l G u code_1) (kVC_size wm_403 ⟨by decide, by decide⟩) (by rfl) (Nat.le_of_ble_eq_true rfl) dT_newLine_4 ⟨by decide, by decide⟩ ?_
  refine tv_bipush (v := 16) (pc := 7) dT_newLine_7 (by decide) ?_
  refine tv_icmp_ge (pc := 9) 16 dT_newLine_9 (by decide) (fun h => absurd h (by rw [hs]; exact nI_ge (b := 16) hn (by decide))) (fun _ => ?_)
  refine tv_iconst (v := 1) (pc := 12) dT_newLine_12 (by decide) ?_
  refine tv_goto (pc := 13) 17 dT_newLine_13 (by decide) ?_
  refine tv_callSv (pc := 17) [_] (c_T_requireState l G u (by decide)) (kST_requireState wm_404 ⟨by decide, by decide⟩) (by rfl) (Nat.le_of_ble_eq_true rfl) dT_newLine_17 ⟨by decide, by decide⟩ ?_
  refine tv_aload_n (pc := 20) dT_newLine_20 (by rfl) ?_
  refine tv_iconst (v := 0) (pc := 21) dT_newLine_21 (by decide) ?_
  refine tv_putI (ty := .boolean) (pc := 22) 5 tyT_ tb_0 (by rfl) uwT_ (by decide) wm_140 okT_ nmT_ (by rfl) (by decide +kernel) (by rfl) (by rfl) (by rfl) dT_newLine_22 ?_
  refine tv_aload_n (pc := 25) dT_newLine_25 (by rfl) ?_
  refine tv_getR (pc := 26) 0 tb_0 (by rfl) uwT_ (by decide) wm_135 (by rfl) dT_newLine_26 ?_
  refine tv_iload_n (pc := 29) dT_newLine_29 (by rfl) ?_
  refine tv_iload_n (pc := 30) dT_newLine_30 (by rfl) ?_
  refine tv_iload_n (pc := 31) dT_newLine_31 (by rfl) ?_
  refine tv_iload (pc := 32) dT_newLine_32 (by rfl) ?_
  refine tv_callVi (pc := 34) [_, _, _, _] tb_1 (by rfl) ka (kVC_append wm_422 ⟨by decide, by decide⟩) (by rfl) (Nat.le_of_ble_eq_true rfl) dT_newLine_34 ⟨by decide, by decide⟩ ?_
  exact tv_iret (pc := 37) dT_newLine_37 rfl (Nat.le_refl _) (Nat.le_refl _) ⟨rfl, rfl⟩
set_option maxRecDepth 100000 in
set_option maxHeartbeats 4000000 in
theorem t_T_newLine (l : Launch) (hl : l.stackTraces = false) (G : tc_G) (u : tc_S) {n : Nat} (hs : u 1 1 = nI n) (hn : n = 16) (k a1 a2 a3 : Int32) : tc_T tcx G l yT_newLine wT_newLine r1T_newLine 1 6 [.ref (tc_ad G 0), .int k, .int a1, .int a2, .int a3] u u "java/lang/IllegalStateException" := by
  refine tw_ofT (own := "TracedCode") [some (.ref (tc_ad G 0)), some (.int k), some (.int a1), some (.int a2), some (.int a3)] (by decide +kernel) rfl (Nat.le_of_ble_eq_true rfl) (by rfl) (fun p e s m args below meth c => ?_)
  refine tv_aload_n (pc := 0) dT_newLine_0 (by rfl) ?_
  refine tv_getR (pc := 1) 0 tb_0 (by rfl) uwT_ (by decide) wm_135 (by rfl) dT_newLine_1 ?_
  refine tv_callVi (pc := 4) [] tb_1 (by rfl) (c_C_size l G u code_1) (kVC_size wm_403 ⟨by decide, by decide⟩) (by rfl) (Nat.le_of_ble_eq_true rfl) dT_newLine_4 ⟨by decide, by decide⟩ ?_
  refine tv_bipush (v := 16) (pc := 7) dT_newLine_7 (by decide) ?_
  refine tv_icmp_ge (pc := 9) 16 dT_newLine_9 (by decide) (fun _ => ?_) (fun h => absurd (by rw [hs, hn]; decide) h)
  refine tv_iconst (v := 0) (pc := 16) dT_newLine_16 (by decide) ?_
  exact tv_thrS (pc := 17) [_] (t_T_requireState l hl G u) (kS1T_requireState wm_404 ⟨by decide, by decide⟩) (by rfl) (Nat.le_of_ble_eq_true rfl) dT_newLine_17 ⟨by decide, by decide⟩ (by decide) (by decide)
set_option maxRecDepth 100000 in
set_option maxHeartbeats 4000000 in
theorem c_T_set (l : Launch) (G : tc_G) (u : tc_S) {n : Nat} (hs : u 1 1 = nI n) (hn : n < 16) (r c1 : Int32) (ho : ((¬ r < 0 ∧ ¬ 6 ≤ r))) : tc_C tcx G l yT_set wT_set r0T_set 0 0 [.ref (tc_ad G 0), .int r, .int c1] u (tc_Ki (nI n) (st_app n 0 r c1 0 u)) := by
  refine tw_ofV (own := "TracedCode") [some (.ref (tc_ad G 0)), some (.int r), some (.int c1)] (by decide +kernel) rfl (Nat.le_of_ble_eq_true rfl) (by rfl) (fun p e s m args below meth c => ?_)
  refine tv_iload_n (pc := 0) dT_set_0 (by rfl) ?_
  refine tv_callSi (pc := 1) [_] (c_T_isRegister l G u _) (kST_isRegister wm_326 ⟨by decide, by decide⟩) (by rfl) (Nat.le_of_ble_eq_true rfl) dT_set_1 ⟨by decide, by decide⟩ ?_
  refine tv_callSv (pc := 4) [_] (c_T_requireArgument l G u (tp_b_1 ho)) (kST_requireArgument wm_332 ⟨by decide, by decide⟩) (by rfl) (Nat.le_of_ble_eq_true rfl) dT_set_4 ⟨by decide, by decide⟩ ?_
  refine tv_aload_n (pc := 7) dT_set_7 (by rfl) ?_
  refine tv_iconst (v := 0) (pc := 8) dT_set_8 (by decide) ?_
  refine tv_iload_n (pc := 9) dT_set_9 (by rfl) ?_
  refine tv_iload_n (pc := 10) dT_set_10 (by rfl) ?_
  refine tv_iconst (v := 0) (pc := 11) dT_set_11 (by decide) ?_
  refine tv_callVi (pc := 12) [_, _, _, _] tb_0 (by rfl) (c_T_newLine l G u hs hn 0 r c1 0) (kVT_newLine wm_399 ⟨by decide, by decide⟩) (by rfl) (Nat.le_of_ble_eq_true rfl) dT_set_12 ⟨by decide, by decide⟩ ?_
  exact tv_iret (pc := 15) dT_set_15 rfl (Nat.le_refl _) (Nat.le_refl _) ⟨rfl, rfl⟩
set_option maxRecDepth 100000 in
set_option maxHeartbeats 4000000 in
theorem t_T_set_A (l : Launch) (hl : l.stackTraces = false) (G : tc_G) (u : tc_S) (r c1 : Int32) (h : ¬ (((¬ r < 0 ∧ ¬ 6 ≤ r)))) : tc_T tcx G l yT_set wT_set r1T_set 1 6 [.ref (tc_ad G 0), .int r, .int c1] u u "java/lang/IllegalArgumentException" := by
  refine tw_ofT (own := "TracedCode") [some (.ref (tc_ad G 0)), some (.int r), some (.int c1)] (by decide +kernel) rfl (Nat.le_of_ble_eq_true rfl) (by rfl) (fun p e s m args below meth c => ?_)
  refine tv_iload_n (pc := 0) dT_set_0 (by rfl) ?_
  refine tv_callSi (pc := 1) [_] (c_T_isRegister l G u _) (kST_isRegister wm_326 ⟨by decide, by decide⟩) (by rfl) (Nat.le_of_ble_eq_true rfl) dT_set_1 ⟨by decide, by decide⟩ ?_
  rw [tp_b_f h]
  exact tv_thrS (pc := 4) [_] (t_T_requireArgument l hl G u) (kS1T_requireArgument wm_332 ⟨by decide, by decide⟩) (by rfl) (Nat.le_of_ble_eq_true rfl) dT_set_4 ⟨by decide, by decide⟩ (by decide) (by decide)
set_option maxRecDepth 100000 in
set_option maxHeartbeats 4000000 in
theorem t_T_set_S (l : Launch) (hl : l.stackTraces = false) (G : tc_G) (u : tc_S) {n : Nat} (hs : u 1 1 = nI n) (hn : n = 16) (r c1 : Int32) (ho : ((¬ r < 0 ∧ ¬ 6 ≤ r))) : tc_T tcx G l yT_set wT_set r1T_set 1 6 [.ref (tc_ad G 0), .int r, .int c1] u u "java/lang/IllegalStateException" := by
  refine tw_ofT (own := "TracedCode") [some (.ref (tc_ad G 0)), some (.int r), some (.int c1)] (by decide +kernel) rfl (Nat.le_of_ble_eq_true rfl) (by rfl) (fun p e s m args below meth c => ?_)
  refine tv_iload_n (pc := 0) dT_set_0 (by rfl) ?_
  refine tv_callSi (pc := 1) [_] (c_T_isRegister l G u _) (kST_isRegister wm_326 ⟨by decide, by decide⟩) (by rfl) (Nat.le_of_ble_eq_true rfl) dT_set_1 ⟨by decide, by decide⟩ ?_
  refine tv_callSv (pc := 4) [_] (c_T_requireArgument l G u (tp_b_1 ho)) (kST_requireArgument wm_332 ⟨by decide, by decide⟩) (by rfl) (Nat.le_of_ble_eq_true rfl) dT_set_4 ⟨by decide, by decide⟩ ?_
  refine tv_aload_n (pc := 7) dT_set_7 (by rfl) ?_
  refine tv_iconst (v := 0) (pc := 8) dT_set_8 (by decide) ?_
  refine tv_iload_n (pc := 9) dT_set_9 (by rfl) ?_
  refine tv_iload_n (pc := 10) dT_set_10 (by rfl) ?_
  refine tv_iconst (v := 0) (pc := 11) dT_set_11 (by decide) ?_
  exact tv_thrV (pc := 12) [_, _, _, _] tb_0 (by rfl) (t_T_newLine l hl G u hs hn 0 r c1 0) (kV1T_newLine wm_399 ⟨by decide, by decide⟩) (by rfl) (Nat.le_of_ble_eq_true rfl) dT_set_12 ⟨by decide, by decide⟩ (by decide) (by decide)
set_option maxRecDepth 100000 in
set_option maxHeartbeats 4000000 in
theorem c_T_copy (l : Launch) (G : tc_G) (u : tc_S) {n : Nat} (hs : u 1 1 = nI n) (hn : n < 16) (r s1 : Int32) (ho : ((¬ r < 0 ∧ ¬ 6 ≤ r)) ∧ ((¬ s1 < 0 ∧ ¬ 6 ≤ s1))) : tc_C tcx G l yT_copy wT_copy r0T_copy 0 0 [.ref (tc_ad G 0), .int r, .int s1] u (tc_Ki (nI n) (st_app n 1 r s1 0 u)) := by
  refine tw_ofV (own := "TracedCode") [some (.ref (tc_ad G 0)), some (.int r), some (.int s1)] (by decide +kernel) rfl (Nat.le_of_ble_eq_true rfl) (by rfl) (fun p e s m args below meth c => ?_)
  refine tv_iload_n (pc := 0) dT_copy_0 (by rfl) ?_
  refine tv_callSi (pc := 1) [_] (c_T_isRegister l G u _) (kST_isRegister wm_326 ⟨by decide, by decide⟩) (by rfl) (Nat.le_of_ble_eq_true rfl) dT_copy_1 ⟨by decide, by decide⟩ ?_
  refine tv_if_eq (pc := 4) 18 dT_copy_4 (by decide) (fun h => absurd h (tp_b_1 ho.1)) (fun _ => ?_)
  refine tv_iload_n (pc := 7) dT_copy_7 (by rfl) ?_
  refine tv_callSi (pc := 8) [_] (c_T_isRegister l G u _) (kST_isRegister wm_326 ⟨by decide, by decide⟩) (by rfl) (Nat.le_of_ble_eq_true rfl) dT_copy_8 ⟨by decide, by decide⟩ ?_
  refine tv_if_eq (pc := 11) 18 dT_copy_11 (by decide) (fun h => absurd h (tp_b_1 ho.2)) (fun _ => ?_)
  refine tv_iconst (v := 1) (pc := 14) dT_copy_14 (by decide) ?_
  refine tv_goto (pc := 15) 19 dT_copy_15 (by decide) ?_
  refine tv_callSv (pc := 19) [_] (c_T_requireArgument l G u (by decide)) (kST_requireArgument wm_332 ⟨by decide, by decide⟩) (by rfl) (Nat.le_of_ble_eq_true rfl) dT_copy_19 ⟨by decide, by decide⟩ ?_
  refine tv_aload_n (pc := 22) dT_copy_22 (by rfl) ?_
  refine tv_iconst (v := 1) (pc := 23) dT_copy_23 (by decide) ?_
  refine tv_iload_n (pc := 24) dT_copy_24 (by rfl) ?_
  refine tv_iload_n (pc := 25) dT_copy_25 (by rfl) ?_
  refine tv_iconst (v := 0) (pc := 26) dT_copy_26 (by decide) ?_
  refine tv_callVi (pc := 27) [_, _, _, _] tb_0 (by rfl) (c_T_newLine l G u hs hn 1 r s1 0) (kVT_newLine wm_399 ⟨by decide, by decide⟩) (by rfl) (Nat.le_of_ble_eq_true rfl) dT_copy_27 ⟨by decide, by decide⟩ ?_
  exact tv_iret (pc := 30) dT_copy_30 rfl (Nat.le_refl _) (Nat.le_refl _) ⟨rfl, rfl⟩
set_option maxRecDepth 100000 in
set_option maxHeartbeats 4000000 in
theorem t_T_copy_A (l : Launch) (hl : l.stackTraces = false) (G : tc_G) (u : tc_S) (r s1 : Int32) (h : ¬ (((¬ r < 0 ∧ ¬ 6 ≤ r)) ∧ ((¬ s1 < 0 ∧ ¬ 6 ≤ s1)))) : tc_T tcx G l yT_copy wT_copy r1T_copy 1 6 [.ref (tc_ad G 0), .int r, .int s1] u u "java/lang/IllegalArgumentException" := by
  refine tw_ofT (own := "TracedCode") [some (.ref (tc_ad G 0)), some (.int r), some (.int s1)] (by decide +kernel) rfl (Nat.le_of_ble_eq_true rfl) (by rfl) (fun p e s m args below meth c => ?_)
  refine tv_iload_n (pc := 0) dT_copy_0 (by rfl) ?_
  refine tv_callSi (pc := 1) [_] (c_T_isRegister l G u _) (kST_isRegister wm_326 ⟨by decide, by decide⟩) (by rfl) (Nat.le_of_ble_eq_true rfl) dT_copy_1 ⟨by decide, by decide⟩ ?_
  refine tv_if_eq (pc := 4) 18 dT_copy_4 (by decide) (fun h4 => ?_) (fun h4 => ?_)
  · skip
    refine tv_iconst (v := 0) (pc := 18) dT_copy_18 (by decide) ?_
    exact tv_thrS (pc := 19) [_] (t_T_requireArgument l hl G u) (kS1T_requireArgument wm_332 ⟨by decide, by decide⟩) (by rfl) (Nat.le_of_ble_eq_true rfl) dT_copy_19 ⟨by decide, by decide⟩ (by decide) (by decide)
  · skip
    refine tv_iload_n (pc := 7) dT_copy_7 (by rfl) ?_
    refine tv_callSi (pc := 8) [_] (c_T_isRegister l G u _) (kST_isRegister wm_326 ⟨by decide, by decide⟩) (by rfl) (Nat.le_of_ble_eq_true rfl) dT_copy_8 ⟨by decide, by decide⟩ ?_
    refine tv_if_eq (pc := 11) 18 dT_copy_11 (by decide) (fun h11 => ?_) (fun h11 => ?_)
    · skip
      refine tv_iconst (v := 0) (pc := 18) dT_copy_18 (by decide) ?_
      exact tv_thrS (pc := 19) [_] (t_T_requireArgument l hl G u) (kS1T_requireArgument wm_332 ⟨by decide, by decide⟩) (by rfl) (Nat.le_of_ble_eq_true rfl) dT_copy_19 ⟨by decide, by decide⟩ (by decide) (by decide)
    · skip
      exact absurd ⟨tp_b_p h4, tp_b_p h11⟩ h
set_option maxRecDepth 100000 in
set_option maxHeartbeats 4000000 in
theorem t_T_copy_S (l : Launch) (hl : l.stackTraces = false) (G : tc_G) (u : tc_S) {n : Nat} (hs : u 1 1 = nI n) (hn : n = 16) (r s1 : Int32) (ho : ((¬ r < 0 ∧ ¬ 6 ≤ r)) ∧ ((¬ s1 < 0 ∧ ¬ 6 ≤ s1))) : tc_T tcx G l yT_copy wT_copy r1T_copy 1 6 [.ref (tc_ad G 0), .int r, .int s1] u u "java/lang/IllegalStateException" := by
  refine tw_ofT (own := "TracedCode") [some (.ref (tc_ad G 0)), some (.int r), some (.int s1)] (by decide +kernel) rfl (Nat.le_of_ble_eq_true rfl) (by rfl) (fun p e s m args below meth c => ?_)
  refine tv_iload_n (pc := 0) dT_copy_0 (by rfl) ?_
  refine tv_callSi (pc := 1) [_] (c_T_isRegister l G u _) (kST_isRegister wm_326 ⟨by decide, by decide⟩) (by rfl) (Nat.le_of_ble_eq_true rfl) dT_copy_1 ⟨by decide, by decide⟩ ?_
  refine tv_if_eq (pc := 4) 18 dT_copy_4 (by decide) (fun h => absurd h (tp_b_1 ho.1)) (fun _ => ?_)
  refine tv_iload_n (pc := 7) dT_copy_7 (by rfl) ?_
  refine tv_callSi (pc := 8) [_] (c_T_isRegister l G u _) (kST_isRegister wm_326 ⟨by decide, by decide⟩) (by rfl) (Nat.le_of_ble_eq_true rfl) dT_copy_8 ⟨by decide, by decide⟩ ?_
  refine tv_if_eq (pc := 11) 18 dT_copy_11 (by decide) (fun h => absurd h (tp_b_1 ho.2)) (fun _ => ?_)
  refine tv_iconst (v := 1) (pc := 14) dT_copy_14 (by decide) ?_
  refine tv_goto (pc := 15) 19 dT_copy_15 (by decide) ?_
  refine tv_callSv (pc := 19) [_] (c_T_requireArgument l G u (by decide)) (kST_requireArgument wm_332 ⟨by decide, by decide⟩) (by rfl) (Nat.le_of_ble_eq_true rfl) dT_copy_19 ⟨by decide, by decide⟩ ?_
  refine tv_aload_n (pc := 22) dT_copy_22 (by rfl) ?_
  refine tv_iconst (v := 1) (pc := 23) dT_copy_23 (by decide) ?_
  refine tv_iload_n (pc := 24) dT_copy_24 (by rfl) ?_
  refine tv_iload_n (pc := 25) dT_copy_25 (by rfl) ?_
  refine tv_iconst (v := 0) (pc := 26) dT_copy_26 (by decide) ?_
  exact tv_thrV (pc := 27) [_, _, _, _] tb_0 (by rfl) (t_T_newLine l hl G u hs hn 1 r s1 0) (kV1T_newLine wm_399 ⟨by decide, by decide⟩) (by rfl) (Nat.le_of_ble_eq_true rfl) dT_copy_27 ⟨by decide, by decide⟩ (by decide) (by decide)
set_option maxRecDepth 100000 in
set_option maxHeartbeats 4000000 in
theorem c_T_add (l : Launch) (G : tc_G) (u : tc_S) {n : Nat} (hs : u 1 1 = nI n) (hn : n < 16) (r s1 t : Int32) (ho : ((¬ r < 0 ∧ ¬ 6 ≤ r)) ∧ ((¬ s1 < 0 ∧ ¬ 6 ≤ s1)) ∧ ((¬ t < 0 ∧ ¬ 6 ≤ t))) : tc_C tcx G l yT_add wT_add r0T_add 0 0 [.ref (tc_ad G 0), .int r, .int s1, .int t] u (tc_Ki (nI n) (st_app n 2 r s1 t u)) := by
  refine tw_ofV (own := "TracedCode") [some (.ref (tc_ad G 0)), some (.int r), some (.int s1), some (.int t)] (by decide +kernel) rfl (Nat.le_of_ble_eq_true rfl) (by rfl) (fun p e s m args below meth c => ?_)
  refine tv_iload_n (pc := 0) dT_add_0 (by rfl) ?_
  refine tv_callSi (pc := 1) [_] (c_T_isRegister l G u _) (kST_isRegister wm_326 ⟨by decide, by decide⟩) (by rfl) (Nat.le_of_ble_eq_true rfl) dT_add_1 ⟨by decide, by decide⟩ ?_
  refine tv_if_eq (pc := 4) 25 dT_add_4 (by decide) (fun h => absurd h (tp_b_1 ho.1)) (fun _ => ?_)
  refine tv_iload_n (pc := 7) dT_add_7 (by rfl) ?_
  refine tv_callSi (pc := 8) [_] (c_T_isRegister l G u _) (kST_isRegister wm_326 ⟨by decide, by decide⟩) (by rfl) (Nat.le_of_ble_eq_true rfl) dT_add_8 ⟨by decide, by decide⟩ ?_
  refine tv_if_eq (pc := 11) 25 dT_add_11 (by decide) (fun h => absurd h (tp_b_1 ho.2.1)) (fun _ => ?_)
  refine tv_iload_n (pc := 14) dT_add_14 (by rfl) ?_
  refine tv_callSi (pc := 15) [_] (c_T_isRegister l G u _) (kST_isRegister wm_326 ⟨by decide, by decide⟩) (by rfl) (Nat.le_of_ble_eq_true rfl) dT_add_15 ⟨by decide, by decide⟩ ?_
  refine tv_if_eq (pc := 18) 25 dT_add_18 (by decide) (fun h => absurd h (tp_b_1 ho.2.2)) (fun _ => ?_)
  refine tv_iconst (v := 1) (pc := 21) dT_add_21 (by decide) ?_
  refine tv_goto (pc := 22) 26 dT_add_22 (by decide) ?_
  refine tv_callSv (pc := 26) [_] (c_T_requireArgument l G u (by decide)) (kST_requireArgument wm_332 ⟨by decide, by decide⟩) (by rfl) (Nat.le_of_ble_eq_true rfl) dT_add_26 ⟨by decide, by decide⟩ ?_
  refine tv_aload_n (pc := 29) dT_add_29 (by rfl) ?_
  refine tv_iconst (v := 2) (pc := 30) dT_add_30 (by decide) ?_
  refine tv_iload_n (pc := 31) dT_add_31 (by rfl) ?_
  refine tv_iload_n (pc := 32) dT_add_32 (by rfl) ?_
  refine tv_iload_n (pc := 33) dT_add_33 (by rfl) ?_
  refine tv_callVi (pc := 34) [_, _, _, _] tb_0 (by rfl) (c_T_newLine l G u hs hn 2 r s1 t) (kVT_newLine wm_399 ⟨by decide, by decide⟩) (by rfl) (Nat.le_of_ble_eq_true rfl) dT_add_34 ⟨by decide, by decide⟩ ?_
  exact tv_iret (pc := 37) dT_add_37 rfl (Nat.le_refl _) (Nat.le_refl _) ⟨rfl, rfl⟩
set_option maxRecDepth 100000 in
set_option maxHeartbeats 4000000 in
theorem t_T_add_A (l : Launch) (hl : l.stackTraces = false) (G : tc_G) (u : tc_S) (r s1 t : Int32) (h : ¬ (((¬ r < 0 ∧ ¬ 6 ≤ r)) ∧ ((¬ s1 < 0 ∧ ¬ 6 ≤ s1)) ∧ ((¬ t < 0 ∧ ¬ 6 ≤ t)))) : tc_T tcx G l yT_add wT_add r1T_add 1 6 [.ref (tc_ad G 0), .int r, .int s1, .int t] u u "java/lang/IllegalArgumentException" := by
  refine tw_ofT (own := "TracedCode") [some (.ref (tc_ad G 0)), some (.int r), some (.int s1), some (.int t)] (by decide +kernel) rfl (Nat.le_of_ble_eq_true rfl) (by rfl) (fun p e s m args below meth c => ?_)
  refine tv_iload_n (pc := 0) dT_add_0 (by rfl) ?_
  refine tv_callSi (pc := 1) [_] (c_T_isRegister l G u _) (kST_isRegister wm_326 ⟨by decide, by decide⟩) (by rfl) (Nat.le_of_ble_eq_true rfl) dT_add_1 ⟨by decide, by decide⟩ ?_
  refine tv_if_eq (pc := 4) 25 dT_add_4 (by decide) (fun h4 => ?_) (fun h4 => ?_)
  · skip
    refine tv_iconst (v := 0) (pc := 25) dT_add_25 (by decide) ?_
    exact tv_thrS (pc := 26) [_] (t_T_requireArgument l hl G u) (kS1T_requireArgument wm_332 ⟨by decide, by decide⟩) (by rfl) (Nat.le_of_ble_eq_true rfl) dT_add_26 ⟨by decide, by decide⟩ (by decide) (by decide)
  · skip
    refine tv_iload_n (pc := 7) dT_add_7 (by rfl) ?_
    refine tv_callSi (pc := 8) [_] (c_T_isRegister l G u _) (kST_isRegister wm_326 ⟨by decide, by decide⟩) (by rfl) (Nat.le_of_ble_eq_true rfl) dT_add_8 ⟨by decide, by decide⟩ ?_
    refine tv_if_eq (pc := 11) 25 dT_add_11 (by decide) (fun h11 => ?_) (fun h11 => ?_)
    · skip
      refine tv_iconst (v := 0) (pc := 25) dT_add_25 (by decide) ?_
      exact tv_thrS (pc := 26) [_] (t_T_requireArgument l hl G u) (kS1T_requireArgument wm_332 ⟨by decide, by decide⟩) (by rfl) (Nat.le_of_ble_eq_true rfl) dT_add_26 ⟨by decide, by decide⟩ (by decide) (by decide)
    · skip
      refine tv_iload_n (pc := 14) dT_add_14 (by rfl) ?_
      refine tv_callSi (pc := 15) [_] (c_T_isRegister l G u _) (kST_isRegister wm_326 ⟨by decide, by decide⟩) (by rfl) (Nat.le_of_ble_eq_true rfl) dT_add_15 ⟨by decide, by decide⟩ ?_
      refine tv_if_eq (pc := 18) 25 dT_add_18 (by decide) (fun h18 => ?_) (fun h18 => ?_)
      · skip
        refine tv_iconst (v := 0) (pc := 25) dT_add_25 (by decide) ?_
        exact tv_thrS (pc := 26) [_] (t_T_requireArgument l hl G u) (kS1T_requireArgument wm_332 ⟨by decide, by decide⟩) (by rfl) (Nat.le_of_ble_eq_true rfl) dT_add_26 ⟨by decide, by decide⟩ (by decide) (by decide)
      · skip
        exact absurd ⟨tp_b_p h4, tp_b_p h11, tp_b_p h18⟩ h
set_option maxRecDepth 100000 in
set_option maxHeartbeats 4000000 in
theorem t_T_add_S (l : Launch) (hl : l.stackTraces = false) (G : tc_G) (u : tc_S) {n : Nat} (hs : u 1 1 = nI n) (hn : n = 16) (r s1 t : Int32) (ho : ((¬ r < 0 ∧ ¬ 6 ≤ r)) ∧ ((¬ s1 < 0 ∧ ¬ 6 ≤ s1)) ∧ ((¬ t < 0 ∧ ¬ 6 ≤ t))) : tc_T tcx G l yT_add wT_add r1T_add 1 6 [.ref (tc_ad G 0), .int r, .int s1, .int t] u u "java/lang/IllegalStateException" := by
  refine tw_ofT (own := "TracedCode") [some (.ref (tc_ad G 0)), some (.int r), some (.int s1), some (.int t)] (by decide +kernel) rfl (Nat.le_of_ble_eq_true rfl) (by rfl) (fun p e s m args below meth c => ?_)
  refine tv_iload_n (pc := 0) dT_add_0 (by rfl) ?_
  refine tv_callSi (pc := 1) [_] (c_T_isRegister l G u _) (kST_isRegister wm_326 ⟨by decide, by decide⟩) (by rfl) (Nat.le_of_ble_eq_true rfl) dT_add_1 ⟨by decide, by decide⟩ ?_
  refine tv_if_eq (pc := 4) 25 dT_add_4 (by decide) (fun h => absurd h (tp_b_1 ho.1)) (fun _ => ?_)
  refine tv_iload_n (pc := 7) dT_add_7 (by rfl) ?_
  refine tv_callSi (pc := 8) [_] (c_T_isRegister l G u _) (kST_isRegister wm_326 ⟨by decide, by decide⟩) (by rfl) (Nat.le_of_ble_eq_true rfl) dT_add_8 ⟨by decide, by decide⟩ ?_
  refine tv_if_eq (pc := 11) 25 dT_add_11 (by decide) (fun h => absurd h (tp_b_1 ho.2.1)) (fun _ => ?_)
  refine tv_iload_n (pc := 14) dT_add_14 (by rfl) ?_
  refine tv_callSi (pc := 15) [_] (c_T_isRegister l G u _) (kST_isRegister wm_326 ⟨by decide, by decide⟩) (by rfl) (Nat.le_of_ble_eq_true rfl) dT_add_15 ⟨by decide, by decide⟩ ?_
  refine tv_if_eq (pc := 18) 25 dT_add_18 (by decide) (fun h => absurd h (tp_b_1 ho.2.2)) (fun _ => ?_)
  refine tv_iconst (v := 1) (pc := 21) dT_add_21 (by decide) ?_
  refine tv_goto (pc := 22) 26 dT_add_22 (by decide) ?_
  refine tv_callSv (pc := 26) [_] (c_T_requireArgument l G u (by decide)) (kST_requireArgument wm_332 ⟨by decide, by decide⟩) (by rfl) (Nat.le_of_ble_eq_true rfl) dT_add_26 ⟨by decide, by decide⟩ ?_
  refine tv_aload_n (pc := 29) dT_add_29 (by rfl) ?_
  refine tv_iconst (v := 2) (pc := 30) dT_add_30 (by decide) ?_
  refine tv_iload_n (pc := 31) dT_add_31 (by rfl) ?_
  refine tv_iload_n (pc := 32) dT_add_32 (by rfl) ?_
  refine tv_iload_n (pc := 33) dT_add_33 (by rfl) ?_
  exact tv_thrV (pc := 34) [_, _, _, _] tb_0 (by rfl) (t_T_newLine l hl G u hs hn 2 r s1 t) (kV1T_newLine wm_399 ⟨by decide, by decide⟩) (by rfl) (Nat.le_of_ble_eq_true rfl) dT_add_34 ⟨by decide, by decide⟩ (by decide) (by decide)
set_option maxRecDepth 100000 in
set_option maxHeartbeats 4000000 in
theorem c_T_out (l : Launch) (G : tc_G) (u : tc_S) {n : Nat} (hs : u 1 1 = nI n) (hn : n < 16) (r : Int32) (ho : ((¬ r < 0 ∧ ¬ 6 ≤ r))) : tc_C tcx G l yT_out wT_out r0T_out 0 0 [.ref (tc_ad G 0), .int r] u (tc_Ki (nI n) (st_app n 3 r 0 0 u)) := by
  refine tw_ofV (own := "TracedCode") [some (.ref (tc_ad G 0)), some (.int r)] (by decide +kernel) rfl (Nat.le_of_ble_eq_true rfl) (by rfl) (fun p e s m args below meth c => ?_)
  refine tv_iload_n (pc := 0) dT_out_0 (by rfl) ?_
  refine tv_callSi (pc := 1) [_] (c_T_isRegister l G u _) (kST_isRegister wm_326 ⟨by decide, by decide⟩) (by rfl) (Nat.le_of_ble_eq_true rfl) dT_out_1 ⟨by decide, by decide⟩ ?_
  refine tv_callSv (pc := 4) [_] (c_T_requireArgument l G u (tp_b_1 ho)) (kST_requireArgument wm_332 ⟨by decide, by decide⟩) (by rfl) (Nat.le_of_ble_eq_true rfl) dT_out_4 ⟨by decide, by decide⟩ ?_
  refine tv_aload_n (pc := 7) dT_out_7 (by rfl) ?_
  refine tv_iconst (v := 3) (pc := 8) dT_out_8 (by decide) ?_
  refine tv_iload_n (pc := 9) dT_out_9 (by rfl) ?_
  refine tv_iconst (v := 0) (pc := 10) dT_out_10 (by decide) ?_
  refine tv_iconst (v := 0) (pc := 11) dT_out_11 (by decide) ?_
  refine tv_callVi (pc := 12) [_, _, _, _] tb_0 (by rfl) (c_T_newLine l G u hs hn 3 r 0 0) (kVT_newLine wm_399 ⟨by decide, by decide⟩) (by rfl) (Nat.le_of_ble_eq_true rfl) dT_out_12 ⟨by decide, by decide⟩ ?_
  exact tv_iret (pc := 15) dT_out_15 rfl (Nat.le_refl _) (Nat.le_refl _) ⟨rfl, rfl⟩
set_option maxRecDepth 100000 in
set_option maxHeartbeats 4000000 in
theorem t_T_out_A (l : Launch) (hl : l.stackTraces = false) (G : tc_G) (u : tc_S) (r : Int32) (h : ¬ (((¬ r < 0 ∧ ¬ 6 ≤ r)))) : tc_T tcx G l yT_out wT_out r1T_out 1 6 [.ref (tc_ad G 0), .int r] u u "java/lang/IllegalArgumentException" := by
  refine tw_ofT (own := "TracedCode") [some (.ref (tc_ad G 0)), some (.int r)] (by decide +kernel) rfl (Nat.le_of_ble_eq_true rfl) (by rfl) (fun p e s m args below meth c => ?_)
  refine tv_iload_n (pc := 0) dT_out_0 (by rfl) ?_
  refine tv_callSi (pc := 1) [_] (c_T_isRegister l G u _) (kST_isRegister wm_326 ⟨by decide, by decide⟩) (by rfl) (Nat.le_of_ble_eq_true rfl) dT_out_1 ⟨by decide, by decide⟩ ?_
  rw [tp_b_f h]
  exact tv_thrS (pc := 4) [_] (t_T_requireArgument l hl G u) (kS1T_requireArgument wm_332 ⟨by decide, by decide⟩) (by rfl) (Nat.le_of_ble_eq_true rfl) dT_out_4 ⟨by decide, by decide⟩ (by decide) (by decide)
set_option maxRecDepth 100000 in
set_option maxHeartbeats 4000000 in
theorem t_T_out_S (l : Launch) (hl : l.stackTraces = false) (G : tc_G) (u : tc_S) {n : Nat} (hs : u 1 1 = nI n) (hn : n = 16) (r : Int32) (ho : ((¬ r < 0 ∧ ¬ 6 ≤ r))) : tc_T tcx G l yT_out wT_out r1T_out 1 6 [.ref (tc_ad G 0), .int r] u u "java/lang/IllegalStateException" := by
  refine tw_ofT (own := "TracedCode") [some (.ref (tc_ad G 0)), some (.int r)] (by decide +kernel) rfl (Nat.le_of_ble_eq_true rfl) (by rfl) (fun p e s m args below meth c => ?_)
  refine tv_iload_n (pc := 0) dT_out_0 (by rfl) ?_
  refine tv_callSi (pc := 1) [_] (c_T_isRegister l G u _) (kST_isRegister wm_326 ⟨by decide, by decide⟩) (by rfl) (Nat.le_of_ble_eq_true rfl) dT_out_1 ⟨by decide, by decide⟩ ?_
  refine tv_callSv (pc := 4) [_] (c_T_requireArgument l G u (tp_b_1 ho)) (kST_requireArgument wm_332 ⟨by decide, by decide⟩) (by rfl) (Nat.le_of_ble_eq_true rfl) dT_out_4 ⟨by decide, by decide⟩ ?_
  refine tv_aload_n (pc := 7) dT_out_7 (by rfl) ?_
  refine tv_iconst (v := 3) (pc := 8) dT_out_8 (by decide) ?_
  refine tv_iload_n (pc := 9) dT_out_9 (by rfl) ?_
  refine tv_iconst (v := 0) (pc := 10) dT_out_10 (by decide) ?_
  refine tv_iconst (v := 0) (pc := 11) dT_out_11 (by decide) ?_
  exact tv_thrV (pc := 12) [_, _, _, _] tb_0 (by rfl) (t_T_newLine l hl G u hs hn 3 r 0 0) (kV1T_newLine wm_399 ⟨by decide, by decide⟩) (by rfl) (Nat.le_of_ble_eq_true rfl) dT_out_12 ⟨by decide, by decide⟩ (by decide) (by decide)
set_option maxRecDepth 100000 in
set_option maxHeartbeats 4000000 in
theorem c_T_jump (l : Launch) (G : tc_G) (u : tc_S) {n : Nat} (hs : u 1 1 = nI n) (hn : n < 16) (r s1 : Int32) (ho : ((¬ r < 0 ∧ ¬ 6 ≤ r)) ∧ ((¬ s1 < 0 ∧ ¬ 17 ≤ s1))) : tc_C tcx G l yT_jump wT_jump r0T_jump 0 0 [.ref (tc_ad G 0), .int r, .int s1] u (tc_Ki (nI n) (st_app n 4 r s1 0 u)) := by
  refine tw_ofV (own := "TracedCode") [some (.ref (tc_ad G 0)), some (.int r), some (.int s1)] (by decide +kernel) rfl (Nat.le_of_ble_eq_true rfl) (by rfl) (fun p e s m args below meth c => ?_)
  refine tv_iload_n (pc := 0) dT_jump_0 (by rfl) ?_
  refine tv_callSi (pc := 1) [_] (c_T_isRegister l G u _) (kST_isRegister wm_326 ⟨by decide, by decide⟩) (by rfl) (Nat.le_of_ble_eq_true rfl) dT_jump_1 ⟨by decide, by decide⟩ ?_
  refine tv_if_eq (pc := 4) 20 dT_jump_4 (by decide) (fun h => absurd h (tp_b_1 ho.1)) (fun _ => ?_)
  refine tv_iload_n (pc := 7) dT_jump_7 (by rfl) ?_
  refine tv_bipush (v := 17) (pc := 8) dT_jump_8 (by decide) ?_
  refine tv_callSi (pc := 10) [_, _] (c_T_isBelow l G u _ _) (kST_isBelow wm_329 ⟨by decide, by decide⟩) (by rfl) (Nat.le_of_ble_eq_true rfl) dT_jump_10 ⟨by decide, by decide⟩ ?_
  refine tv_if_eq (pc := 13) 20 dT_jump_13 (by decide) (fun h => absurd h (tp_b_1 ho.2)) (fun _ => ?_)
  refine tv_iconst (v := 1) (pc := 16) dT_jump_16 (by decide) ?_
  refine tv_goto (pc := 17) 21 dT_jump_17 (by decide) ?_
  refine tv_callSv (pc := 21) [_] (c_T_requireArgument l G u (by decide)) (kST_requireArgument wm_332 ⟨by decide, by decide⟩) (by rfl) (Nat.le_of_ble_eq_true rfl) dT_jump_21 ⟨by decide, by decide⟩ ?_
  refine tv_aload_n (pc := 24) dT_jump_24 (by rfl) ?_
  refine tv_iconst (v := 4) (pc := 25) dT_jump_25 (by decide) ?_
  refine tv_iload_n (pc := 26) dT_jump_26 (by rfl) ?_
  refine tv_iload_n (pc := 27) dT_jump_27 (by rfl) ?_
  refine tv_iconst (v := 0) (pc := 28) dT_jump_28 (by decide) ?_
  refine tv_callVi (pc := 29) [_, _, _, _] tb_0 (by rfl) (c_T_newLine l G u hs hn 4 r s1 0) (kVT_newLine wm_399 ⟨by decide, by decide⟩) (by rfl) (Nat.le_of_ble_eq_true rfl) dT_jump_29 ⟨by decide, by decide⟩ ?_
  exact tv_iret (pc := 32) dT_jump_32 rfl (Nat.le_refl _) (Nat.le_refl _) ⟨rfl, rfl⟩
set_option maxRecDepth 100000 in
set_option maxHeartbeats 4000000 in
theorem t_T_jump_A (l : Launch) (hl : l.stackTraces = false) (G : tc_G) (u : tc_S) (r s1 : Int32) (h : ¬ (((¬ r < 0 ∧ ¬ 6 ≤ r)) ∧ ((¬ s1 < 0 ∧ ¬ 17 ≤ s1)))) : tc_T tcx G l yT_jump wT_jump r1T_jump 1 6 [.ref (tc_ad G 0), .int r, .int s1] u u "java/lang/IllegalArgumentException" := by
  refine tw_ofT (own := "TracedCode") [some (.ref (tc_ad G 0)), some (.int r), some (.int s1)] (by decide +kernel) rfl (Nat.le_of_ble_eq_true rfl) (by rfl) (fun p e s m args below meth c => ?_)
  refine tv_iload_n (pc := 0) dT_jump_0 (by rfl) ?_
  refine tv_callSi (pc := 1) [_] (c_T_isRegister l G u _) (kST_isRegister wm_326 ⟨by decide, by decide⟩) (by rfl) (Nat.le_of_ble_eq_true rfl) dT_jump_1 ⟨by decide, by decide⟩ ?_
  refine tv_if_eq (pc := 4) 20 dT_jump_4 (by decide) (fun h4 => ?_) (fun h4 => ?_)
  · skip
    refine tv_iconst (v := 0) (pc := 20) dT_jump_20 (by decide) ?_
    exact tv_thrS (pc := 21) [_] (t_T_requireArgument l hl G u) (kS1T_requireArgument wm_332 ⟨by decide, by decide⟩) (by rfl) (Nat.le_of_ble_eq_true rfl) dT_jump_21 ⟨by decide, by decide⟩ (by decide) (by decide)
  · skip
    refine tv_iload_n (pc := 7) dT_jump_7 (by rfl) ?_
    refine tv_bipush (v := 17) (pc := 8) dT_jump_8 (by decide) ?_
    refine tv_callSi (pc := 10) [_, _] (c_T_isBelow l G u _ _) (kST_isBelow wm_329 ⟨by decide, by decide⟩) (by rfl) (Nat.le_of_ble_eq_true rfl) dT_jump_10 ⟨by decide, by decide⟩ ?_
    refine tv_if_eq (pc := 13) 20 dT_jump_13 (by decide) (fun h13 => ?_) (fun h13 => ?_)
    · skip
      refine tv_iconst (v := 0) (pc := 20) dT_jump_20 (by decide) ?_
      exact tv_thrS (pc := 21) [_] (t_T_requireArgument l hl G u) (kS1T_requireArgument wm_332 ⟨by decide, by decide⟩) (by rfl) (Nat.le_of_ble_eq_true rfl) dT_jump_21 ⟨by decide, by decide⟩ (by decide) (by decide)
    · skip
      exact absurd ⟨tp_b_p h4, tp_b_p h13⟩ h
set_option maxRecDepth 100000 in
set_option maxHeartbeats 4000000 in
theorem t_T_jump_S (l : Launch) (hl : l.stackTraces = false) (G : tc_G) (u : tc_S) {n : Nat} (hs : u 1 1 = nI n) (hn : n = 16) (r s1 : Int32) (ho : ((¬ r < 0 ∧ ¬ 6 ≤ r)) ∧ ((¬ s1 < 0 ∧ ¬ 17 ≤ s1))) : tc_T tcx G l yT_jump wT_jump r1T_jump 1 6 [.ref (tc_ad G 0), .int r, .int s1] u u "java/lang/IllegalStateException" := by
  refine tw_ofT (own := "TracedCode") [some (.ref (tc_ad G 0)), some (.int r), some (.int s1)] (by decide +kernel) rfl (Nat.le_of_ble_eq_true rfl) (by rfl) (fun p e s m args below meth c => ?_)
  refine tv_iload_n (pc := 0) dT_jump_0 (by rfl) ?_
  refine tv_callSi (pc := 1) [_] (c_T_isRegister l G u _) (kST_isRegister wm_326 ⟨by decide, by decide⟩) (by rfl) (Nat.le_of_ble_eq_true rfl) dT_jump_1 ⟨by decide, by decide⟩ ?_
  refine tv_if_eq (pc := 4) 20 dT_jump_4 (by decide) (fun h => absurd h (tp_b_1 ho.1)) (fun _ => ?_)
  refine tv_iload_n (pc := 7) dT_jump_7 (by rfl) ?_
  refine tv_bipush (v := 17) (pc := 8) dT_jump_8 (by decide) ?_
  refine tv_callSi (pc := 10) [_, _] (c_T_isBelow l G u _ _) (kST_isBelow wm_329 ⟨by decide, by decide⟩) (by rfl) (Nat.le_of_ble_eq_true rfl) dT_jump_10 ⟨by decide, by decide⟩ ?_
  refine tv_if_eq (pc := 13) 20 dT_jump_13 (by decide) (fun h => absurd h (tp_b_1 ho.2)) (fun _ => ?_)
  refine tv_iconst (v := 1) (pc := 16) dT_jump_16 (by decide) ?_
  refine tv_goto (pc := 17) 21 dT_jump_17 (by decide) ?_
  refine tv_callSv (pc := 21) [_] (c_T_requireArgument l G u (by decide)) (kST_requireArgument wm_332 ⟨by decide, by decide⟩) (by rfl) (Nat.le_of_ble_eq_true rfl) dT_jump_21 ⟨by decide, by decide⟩ ?_
  refine tv_aload_n (pc := 24) dT_jump_24 (by rfl) ?_
  refine tv_iconst (v := 4) (pc := 25) dT_jump_25 (by decide) ?_
  refine tv_iload_n (pc := 26) dT_jump_26 (by rfl) ?_
  refine tv_iload_n (pc := 27) dT_jump_27 (by rfl) ?_
  refine tv_iconst (v := 0) (pc := 28) dT_jump_28 (by decide) ?_
  exact tv_thrV (pc := 29) [_, _, _, _] tb_0 (by rfl) (t_T_newLine l hl G u hs hn 4 r s1 0) (kV1T_newLine wm_399 ⟨by decide, by decide⟩) (by rfl) (Nat.le_of_ble_eq_true rfl) dT_jump_29 ⟨by decide, by decide⟩ (by decide) (by decide)
set_option maxRecDepth 100000 in
set_option maxHeartbeats 4000000 in
theorem c_T_name (l : Launch) (G : tc_G) (u : tc_S) {n : Nat} (hs : u 1 1 = nI n) (hn : n < 16) (v r : Int32) (ho : ((¬ v < 0 ∧ ¬ 3 ≤ v)) ∧ ((¬ r < 0 ∧ ¬ 6 ≤ r))) : tc_C tcx G l yT_name wT_name r0T_name 0 0 [.ref (tc_ad G 0), .int v, .int r] u (tc_Ki (nI n) (st_app n 5 v r 0 u)) := by
  refine tw_ofV (own := "TracedCode") [some (.ref (tc_ad G 0)), some (.int v), some (.int r)] (by decide +kernel) rfl (Nat.le_of_ble_eq_true rfl) (by rfl) (fun p e s m args below meth c => ?_)
  refine tv_iload_n (pc := 0) dT_name_0 (by rfl) ?_
  refine tv_callSi (pc := 1) [_] (c_T_isVariable l G u _) (kST_isVariable wm_461 ⟨by decide, by decide⟩) (by rfl) (Nat.le_of_ble_eq_true rfl) dT_name_1 ⟨by decide, by decide⟩ ?_
  refine tv_if_eq (pc := 4) 18 dT_name_4 (by decide) (fun h => absurd h (tp_b_1 ho.1)) (fun _ => ?_)
  refine tv_iload_n (pc := 7) dT_name_7 (by rfl) ?_
  refine tv_callSi (pc := 8) [_] (c_T_isRegister l G u _) (kST_isRegister wm_326 ⟨by decide, by decide⟩) (by rfl) (Nat.le_of_ble_eq_true rfl) dT_name_8 ⟨by decide, by decide⟩ ?_
  refine tv_if_eq (pc := 11) 18 dT_name_11 (by decide) (fun h => absurd h (tp_b_1 ho.2)) (fun _ => ?_)
  refine tv_iconst (v := 1) (pc := 14) dT_name_14 (by decide) ?_
  refine tv_goto (pc := 15) 19 dT_name_15 (by decide) ?_
  refine tv_callSv (pc := 19) [_] (c_T_requireArgument l G u (by decide)) (kST_requireArgument wm_332 ⟨by decide, by decide⟩) (by rfl) (Nat.le_of_ble_eq_true rfl) dT_name_19 ⟨by decide, by decide⟩ ?_
  refine tv_aload_n (pc := 22) dT_name_22 (by rfl) ?_
  refine tv_iconst (v := 5) (pc := 23) dT_name_23 (by decide) ?_
  refine tv_iload_n (pc := 24) dT_name_24 (by rfl) ?_
  refine tv_iload_n (pc := 25) dT_name_25 (by rfl) ?_
  refine tv_iconst (v := 0) (pc := 26) dT_name_26 (by decide) ?_
  refine tv_callVi (pc := 27) [_, _, _, _] tb_0 (by rfl) (c_T_newLine l G u hs hn 5 v r 0) (kVT_newLine wm_399 ⟨by decide, by decide⟩) (by rfl) (Nat.le_of_ble_eq_true rfl) dT_name_27 ⟨by decide, by decide⟩ ?_
  exact tv_iret (pc := 30) dT_name_30 rfl (Nat.le_refl _) (Nat.le_refl _) ⟨rfl, rfl⟩
set_option maxRecDepth 100000 in
set_option maxHeartbeats 4000000 in
theorem t_T_name_A (l : Launch) (hl : l.stackTraces = false) (G : tc_G) (u : tc_S) (v r : Int32) (h : ¬ (((¬ v < 0 ∧ ¬ 3 ≤ v)) ∧ ((¬ r < 0 ∧ ¬ 6 ≤ r)))) : tc_T tcx G l yT_name wT_name r1T_name 1 6 [.ref (tc_ad G 0), .int v, .int r] u u "java/lang/IllegalArgumentException" := by
  refine tw_ofT (own := "TracedCode") [some (.ref (tc_ad G 0)), some (.int v), some (.int r)] (by decide +kernel) rfl (Nat.le_of_ble_eq_true rfl) (by rfl) (fun p e s m args below meth c => ?_)
  refine tv_iload_n (pc := 0) dT_name_0 (by rfl) ?_
  refine tv_callSi (pc := 1) [_] (c_T_isVariable l G u _) (kST_isVariable wm_461 ⟨by decide, by decide⟩) (by rfl) (Nat.le_of_ble_eq_true rfl) dT_name_1 ⟨by decide, by decide⟩ ?_
  refine tv_if_eq (pc := 4) 18 dT_name_4 (by decide) (fun h4 => ?_) (fun h4 => ?_)
  · skip
    refine tv_iconst (v := 0) (pc := 18) dT_name_18 (by decide) ?_
    exact tv_thrS (pc := 19) [_] (t_T_requireArgument l hl G u) (kS1T_requireArgument wm_332 ⟨by decide, by decide⟩) (by rfl) (Nat.le_of_ble_eq_true rfl) dT_name_19 ⟨by decide, by decide⟩ (by decide) (by decide)
  · skip
    refine tv_iload_n (pc := 7) dT_name_7 (by rfl) ?_
    refine tv_callSi (pc := 8) [_] (c_T_isRegister l G u _) (kST_isRegister wm_326 ⟨by decide, by decide⟩) (by rfl) (Nat.le_of_ble_eq_true rfl) dT_name_8 ⟨by decide, by decide⟩ ?_
    refine tv_if_eq (pc := 11) 18 dT_name_11 (by decide) (fun h11 => ?_) (fun h11 => ?_)
    · skip
      refine tv_iconst (v := 0) (pc := 18) dT_name_18 (by decide) ?_
      exact tv_thrS (pc := 19) [_] (t_T_requireArgument l hl G u) (kS1T_requireArgument wm_332 ⟨by decide, by decide⟩) (by rfl) (Nat.le_of_ble_eq_true rfl) dT_name_19 ⟨by decide, by decide⟩ (by decide) (by decide)
    · skip
      exact absurd ⟨tp_b_p h4, tp_b_p h11⟩ h
set_option maxRecDepth 100000 in
set_option maxHeartbeats 4000000 in
theorem t_T_name_S (l : Launch) (hl : l.stackTraces = false) (G : tc_G) (u : tc_S) {n : Nat} (hs : u 1 1 = nI n) (hn : n = 16) (v r : Int32) (ho : ((¬ v < 0 ∧ ¬ 3 ≤ v)) ∧ ((¬ r < 0 ∧ ¬ 6 ≤ r))) : tc_T tcx G l yT_name wT_name r1T_name 1 6 [.ref (tc_ad G 0), .int v, .int r] u u "java/lang/IllegalStateException" := by
  refine tw_ofT (own := "TracedCode") [some (.ref (tc_ad G 0)), some (.int v), some (.int r)] (by decide +kernel) rfl (Nat.le_of_ble_eq_true rfl) (by rfl) (fun p e s m args below meth c => ?_)
  refine tv_iload_n (pc := 0) dT_name_0 (by rfl) ?_
  refine tv_callSi (pc := 1) [_] (c_T_isVariable l G u _) (kST_isVariable wm_461 ⟨by decide, by decide⟩) (by rfl) (Nat.le_of_ble_eq_true rfl) dT_name_1 ⟨by decide, by decide⟩ ?_
  refine tv_if_eq (pc := 4) 18 dT_name_4 (by decide) (fun h => absurd h (tp_b_1 ho.1)) (fun _ => ?_)
  refine tv_iload_n (pc := 7) dT_name_7 (by rfl) ?_
  refine tv_callSi (pc := 8) [_] (c_T_isRegister l G u _) (kST_isRegister wm_326 ⟨by decide, by decide⟩) (by rfl) (Nat.le_of_ble_eq_true rfl) dT_name_8 ⟨by decide, by decide⟩ ?_
  refine tv_if_eq (pc := 11) 18 dT_name_11 (by decide) (fun h => absurd h (tp_b_1 ho.2)) (fun _ => ?_)
  refine tv_iconst (v := 1) (pc := 14) dT_name_14 (by decide) ?_
  refine tv_goto (pc := 15) 19 dT_name_15 (by decide) ?_
  refine tv_callSv (pc := 19) [_] (c_T_requireArgument l G u (by decide)) (kST_requireArgument wm_332 ⟨by decide, by decide⟩) (by rfl) (Nat.le_of_ble_eq_true rfl) dT_name_19 ⟨by decide, by decide⟩ ?_
  refine tv_aload_n (pc := 22) dT_name_22 (by rfl) ?_
  refine tv_iconst (v := 5) (pc := 23) dT_name_23 (by decide) ?_
  refine tv_iload_n (pc := 24) dT_name_24 (by rfl) ?_
  refine tv_iload_n (pc := 25) dT_name_25 (by rfl) ?_
  refine tv_iconst (v := 0) (pc := 26) dT_name_26 (by decide) ?_
  exact tv_thrV (pc := 27) [_, _, _, _] tb_0 (by rfl) (t_T_newLine l hl G u hs hn 5 v r 0) (kV1T_newLine wm_399 ⟨by decide, by decide⟩) (by rfl) (Nat.le_of_ble_eq_true rfl) dT_name_27 ⟨by decide, by decide⟩ (by decide) (by decide)
set_option maxRecDepth 100000 in
set_option maxHeartbeats 4000000 in
theorem c_T_clear (l : Launch) (G : tc_G) (u : tc_S)  : tc_C tcx G l yT_clear wT_clear r0T_clear 0 0 [.ref (tc_ad G 0)] u (tc_Kv (tc_up (tc_up u 1 1 0) 0 5 0)) := by
  refine tw_ofV (own := "TracedCode") [some (.ref (tc_ad G 0))] (by decide +kernel) rfl (Nat.le_of_ble_eq_true rfl) (by rfl) (fun p e s m args below meth c => ?_)
  refine tv_aload_n (pc := 0) dT_clear_0 (by rfl) ?_
  refine tv_getR (pc := 1) 0 tb_0 (by rfl) uwT_ (by decide) wm_135 (by rfl) dT_clear_1 ?_
  refine tv_callVv (pc := 4) [] tb_1 (by rfl) (c_C_dropLines l G u code_1) (kVC_dropLines wm_158 ⟨by decide, by decide⟩) (by rfl) (Nat.le_of_ble_eq_true rfl) dT_clear_4 ⟨by decide, by decide⟩ ?_
  refine tv_aload_n (pc := 7) dT_clear_7 (by rfl) ?_
  refine tv_iconst (v := 0) (pc := 8) dT_clear_8 (by decide) ?_
  refine tv_putI (ty := .boolean) (pc := 9) 5 tyT_ tb_0 (by rfl) uwT_ (by decide) wm_140 okT_ nmT_ (by rfl) (by decide +kernel) (by rfl) (by rfl) (by rfl) dT_clear_9 ?_
  exact tv_vret (pc := 12) dT_clear_12 rfl (Nat.le_refl _) (Nat.le_refl _) ⟨rfl, rfl⟩
/-- shorten -/
noncomputable def st_r (n : Nat) (u : tc_S) : Nat × tc_S := sr n 1000000 0 (tc_take u n)
noncomputable def st_sh (n : Nat) (u : tc_S) : tc_S := tc_up (sn_begin (sk_find n (st_r n u).2)) 0 5 1
set_option maxRecDepth 100000 in
set_option maxHeartbeats 4000000 in
theorem c_T_shorten (l : Launch) (G : tc_G) (u : tc_S) {n : Nat} (hs : u 1 1 = nI n) (hn : n ≤ 16) (hI : sp_I n (tc_take u n)) (hJ : sp_I n (st_r n u).2) (hQ : ∀ i, i < n → tp_line (pv (st_r n u).2 3) i ∧ ¬ pv (st_r n u).2 3 0 i = -1) : tc_C tcx G l yT_shorten wT_shorten r0T_shorten 0 0 [.ref (tc_ad G 0)] u (tc_Ki (nI (st_r n u).1) (st_sh n u)) := by
  refine tw_ofV (own := "TracedCode") [some (.ref (tc_ad G 0)), none] (by decide +kernel) rfl (Nat.le_of_ble_eq_true rfl) (by rfl) (fun p e s m args below meth c => ?_)
  refine tv_aload_n (pc := 0) dT_shorten_0 (by rfl) ?_
  refine tv_getR (pc := 1) 1 tb_0 (by rfl) uwT_ (by decide) wm_136 (by rfl) dT_shorten_1 ?_
  refine tv_aload_n (pc := 4) dT_shorten_4 (by rfl) ?_
  refine tv_getR (pc := 5) 0 tb_0 (by rfl) uwT_ (by decide) wm_135 (by rfl) dT_shorten_5 ?_
  refine tv_callVv (pc := 8) [_] tb_7 (by rfl) (c_C_takeLines l G u hs hn) (kVC_takeLines wm_166 ⟨by decide, by decide⟩) (by rfl) (Nat.le_of_ble_eq_true rfl) dT_shorten_8 ⟨by decide, by decide⟩ ?_
  refine tv_aload_n (pc := 11) dT_shorten_11 (by rfl) ?_
  refine tv_getR (pc := 12) 2 tb_0 (by rfl) uwT_ (by decide) wm_137 (by rfl) dT_shorten_12 ?_
  refine tv_aload_n (pc := 15) dT_shorten_15 (by rfl) ?_
  refine tv_getR (pc := 16) 1 tb_0 (by rfl) uwT_ (by decide) wm_136 (by rfl) dT_shorten_16 ?_
  refine tv_callVi (pc := 19) [_] tb_13 (by rfl) (c_S_changingRounds l G (tc_take u n) hn hI) (kVS_changingRounds wm_173 ⟨by decide, by decide⟩) (by rfl) (Nat.le_of_ble_eq_true rfl) dT_shorten_19 ⟨by decide, by decide⟩ ?_
  refine tv_istore1 (pc := 22) dT_shorten_22 (by rfl) ?_
  refine tv_aload_n (pc := 23) dT_shorten_23 (by rfl) ?_
  refine tv_getR (pc := 24) 3 tb_0 (by rfl) uwT_ (by decide) wm_138 (by rfl) dT_shorten_24 ?_
  refine tv_aload_n (pc := 27) dT_shorten_27 (by rfl) ?_
  refine tv_getR (pc := 28) 0 tb_0 (by rfl) uwT_ (by decide) wm_135 (by rfl) dT_shorten_28 ?_
  refine tv_aload_n (pc := 31) dT_shorten_31 (by rfl) ?_
  refine tv_getR (pc := 32) 1 tb_0 (by rfl) uwT_ (by decide) wm_136 (by rfl) dT_shorten_32 ?_
  refine tv_callVv (pc := 35) [_, _] tb_24 (by rfl) (c_K_find l G (st_r n u).2 hJ.1 hn hJ.2.1 hQ) (kVK_find wm_301 ⟨by decide, by decide⟩) (by rfl) (Nat.le_of_ble_eq_true rfl) dT_shorten_35 ⟨by decide, by decide⟩ ?_
  refine tv_aload_n (pc := 38) dT_shorten_38 (by rfl) ?_
  refine tv_getR (pc := 39) 4 tb_0 (by rfl) uwT_ (by decide) wm_139 (by rfl) dT_shorten_39 ?_
  refine tv_callVv (pc := 42) [] tb_47 (by rfl) (c_R_begin l G _) (kVR_begin wm_308 ⟨by decide, by decide⟩) (by rfl) (Nat.le_of_ble_eq_true rfl) dT_shorten_42 ⟨by decide, by decide⟩ ?_
  refine tv_aload_n (pc := 45) dT_shorten_45 (by rfl) ?_
  refine tv_iconst (v := 1) (pc := 46) dT_shorten_46 (by decide) ?_
  refine tv_putI (ty := .boolean) (pc := 47) 5 tyT_ tb_0 (by rfl) uwT_ (by decide) wm_140 okT_ nmT_ (by rfl) (by decide +kernel) (by rfl) (by rfl) (by rfl) dT_shorten_47 ?_
  refine tv_iload_n (pc := 50) dT_shorten_50 (by rfl) ?_
  exact tv_iret (pc := 51) dT_shorten_51 rfl (Nat.le_refl _) (Nat.le_refl _) ⟨rfl, rfl⟩
set_option maxRecDepth 100000 in
set_option maxHeartbeats 4000000 in
theorem c_T_kept (l : Launch) (G : tc_G) (u : tc_S) (hm : ¬ u 0 5 = 0) {n : Nat} (hs : u 7 1 = nI n) (hn : n ≤ 16) : tc_C tcx G l yT_kept wT_kept r0T_kept 0 0 [.ref (tc_ad G 0)] u (tc_Ki (nI (tp_cn (pv u 9) n)) u) := by
  refine tw_ofV (own := "TracedCode") [some (.ref (tc_ad G 0))] (by decide +kernel) rfl (Nat.le_of_ble_eq_true rfl) (by rfl) (fun p e s m args below meth c => ?_)
  refine tv_aload_n (pc := 0) dT_kept_0 (by rfl) ?_
  refine tv_callVv (pc := 1) [] tb_0 (by rfl) (c_T_requireShortProgram l G u hm) (kVT_requireShortProgram wm_471 ⟨by decide, by decide⟩) (by rfl) (Nat.le_of_ble_eq_true rfl) dT_kept_1 ⟨by decide, by decide⟩ ?_
  refine tv_aload_n (pc := 4) dT_kept_4 (by rfl) ?_
  refine tv_getR (pc := 5) 1 tb_0 (by rfl) uwT_ (by decide) wm_136 (by rfl) dT_kept_5 ?_
  refine tv_callVi (pc := 8) [] tb_7 (by rfl) (c_C_fullLines l G u code_7 hs hn) (kVC_fullLines wm_475 ⟨by decide, by decide⟩) (by rfl) (Nat.le_of_ble_eq_true rfl) dT_kept_8 ⟨by decide, by decide⟩ ?_
  exact tv_iret (pc := 11) dT_kept_11 rfl (Nat.le_refl _) (Nat.le_refl _) ⟨rfl, rfl⟩
set_option maxRecDepth 100000 in
set_option maxHeartbeats 4000000 in
theorem t_T_kept_M (l : Launch) (hl : l.stackTraces = false) (G : tc_G) (u : tc_S) (hm : u 0 5 = 0)  : tc_T tcx G l yT_kept wT_kept r1T_kept 1 6 [.ref (tc_ad G 0)] u u "java/lang/IllegalStateException" := by
  refine tw_ofT (own := "TracedCode") [some (.ref (tc_ad G 0))] (by decide +kernel) rfl (Nat.le_of_ble_eq_true rfl) (by rfl) (fun p e s m args below meth c => ?_)
  refine tv_aload_n (pc := 0) dT_kept_0 (by rfl) ?_
  exact tv_thrV (pc := 1) [] tb_0 (by rfl) (t_T_requireShortProgram l hl G u hm) (kV1T_requireShortProgram wm_471 ⟨by decide, by decide⟩) (by rfl) (Nat.le_of_ble_eq_true rfl) dT_kept_1 ⟨by decide, by decide⟩ (by decide) (by decide)
set_option maxRecDepth 100000 in
set_option maxHeartbeats 4000000 in
theorem c_T_part (l : Launch) (G : tc_G) (u : tc_S) (hm : ¬ u 0 5 = 0) {n : Nat} (hs : u 7 1 = nI n) (hn : n ≤ 16) {i j : Nat} (hi : i < n) (hj : j < 4) : tc_C tcx G l yT_part wT_part r0T_part 0 0 [.ref (tc_ad G 0), .int (nI i), .int (nI j)] u (tc_Ki (u (9 + j) i) u) := by
  refine tw_ofV (own := "TracedCode") [some (.ref (tc_ad G 0)), some (.int (nI i)), some (.int (nI j))] (by decide +kernel) rfl (Nat.le_of_ble_eq_true rfl) (by rfl) (fun p e s m args below meth c => ?_)
  refine tv_aload_n (pc := 0) dT_part_0 (by rfl) ?_
  refine tv_callVv (pc := 1) [] tb_0 (by rfl) (c_T_requireShortProgram l G u hm) (kVT_requireShortProgram wm_471 ⟨by decide, by decide⟩) (by rfl) (Nat.le_of_ble_eq_true rfl) dT_part_1 ⟨by decide, by decide⟩ ?_
  refine tv_iload_n (pc := 4) dT_part_4 (by rfl) ?_
  refine tv_aload_n (pc := 5) dT_part_5 (by rfl) ?_
  refine tv_getR (pc := 6) 1 tb_0 (by rfl) uwT_ (by decide) wm_136 (by rfl) dT_part_6 ?_
  refine tv_callVi (pc := 9) [] tb_7 (by rfl) (c_C_size l G u code_7) (kVC_size wm_403 ⟨by decide, by decide⟩) (by rfl) (Nat.le_of_ble_eq_true rfl) dT_part_9 ⟨by decide, by decide⟩ ?_
  refine tv_callSi (pc := 12) [_, _] (c_T_isBelow l G u _ _) (kST_isBelow wm_329 ⟨by decide, by decide⟩) (by rfl) (Nat.le_of_ble_eq_true rfl) dT_part_12 ⟨by decide, by decide⟩ ?_
  refine tv_if_eq (pc := 15) 30 dT_part_15 (by decide) (fun h => absurd h (tp_b_1 (by rw [hs]; exact tq_of (by omega) hi))) (fun _ => ?_)
  refine tv_iload_n (pc := 18) dT_part_18 (by rfl) ?_
  refine tv_iconst (v := 4) (pc := 19) dT_part_19 (by decide) ?_
  refine tv_callSi (pc := 20) [_, _] (c_T_isBelow l G u _ _) (kST_isBelow wm_329 ⟨by decide, by decide⟩) (by rfl) (Nat.le_of_ble_eq_true rfl) dT_part_20 ⟨by decide, by decide⟩ ?_
  refine tv_if_eq (pc := 23) 30 dT_part_23 (by decide) (fun h => absurd h (tp_b_1 (tq_of (b := 4) (by decide) hj))) (fun _ => ?_)
  refine tv_iconst (v := 1) (pc := 26) dT_part_26 (by decide) ?_
  refine tv_goto (pc := 27) 31 dT_part_27 (by decide) ?_
  refine tv_callSv (pc := 31) [_] (c_T_requireIndex l G u (by decide)) (kST_requireIndex wm_488 ⟨by decide, by decide⟩) (by rfl) (Nat.le_of_ble_eq_true rfl) dT_part_31 ⟨by decide, by decide⟩ ?_
  refine tv_aload_n (pc := 34) dT_part_34 (by rfl) ?_
  refine tv_getR (pc := 35) 1 tb_0 (by rfl) uwT_ (by decide) wm_136 (by rfl) dT_part_35 ?_
  refine tv_iload_n (pc := 38) dT_part_38 (by rfl) ?_
  refine tv_iload_n (pc := 39) dT_part_39 (by rfl) ?_
  refine tv_callVi (pc := 40) [_, _] tb_7 (by rfl) (c_C_number l G u code_7 (tc_ixN (by omega) (by decide)) (tc_ixN hj (by decide))) (kVC_number wm_506 ⟨by decide, by decide⟩) (by rfl) (Nat.le_of_ble_eq_true rfl) dT_part_40 ⟨by decide, by decide⟩ ?_
  exact tv_iret (pc := 43) dT_part_43 rfl (Nat.le_refl _) (Nat.le_refl _) ⟨rfl, rfl⟩
set_option maxRecDepth 100000 in
set_option maxHeartbeats 4000000 in
theorem t_T_part_M (l : Launch) (hl : l.stackTraces = false) (G : tc_G) (u : tc_S) (hm : u 0 5 = 0) (x y : Int32) : tc_T tcx G l yT_part wT_part r1T_part 1 6 [.ref (tc_ad G 0), .int x, .int y] u u "java/lang/IllegalStateException" := by
  refine tw_ofT (own := "TracedCode") [some (.ref (tc_ad G 0)), some (.int x), some (.int y)] (by decide +kernel) rfl (Nat.le_of_ble_eq_true rfl) (by rfl) (fun p e s m args below meth c => ?_)
  refine tv_aload_n (pc := 0) dT_part_0 (by rfl) ?_
  exact tv_thrV (pc := 1) [] tb_0 (by rfl) (t_T_requireShortProgram l hl G u hm) (kV1T_requireShortProgram wm_471 ⟨by decide, by decide⟩) (by rfl) (Nat.le_of_ble_eq_true rfl) dT_part_1 ⟨by decide, by decide⟩ (by decide) (by decide)
set_option maxRecDepth 100000 in
set_option maxHeartbeats 4000000 in
theorem t_T_part_I (l : Launch) (hl : l.stackTraces = false) (G : tc_G) (u : tc_S) (hm : ¬ u 0 5 = 0) {n : Nat} (hs : u 7 1 = nI n) (x y : Int32) (h : ¬ ((¬ x < 0 ∧ ¬ nI n ≤ x) ∧ (¬ y < 0 ∧ ¬ 4 ≤ y))) : tc_T tcx G l yT_part wT_part r1T_part 1 6 [.ref (tc_ad G 0), .int x, .int y] u u "java/lang/IndexOutOfBoundsException" := by
  refine tw_ofT (own := "TracedCode") [some (.ref (tc_ad G 0)), some (.int x), some (.int y)] (by decide +kernel) rfl (Nat.le_of_ble_eq_true rfl) (by rfl) (fun p e s m args below meth c => ?_)
  refine tv_aload_n (pc := 0) dT_part_0 (by rfl) ?_
  refine tv_callVv (pc := 1) [] tb_0 (by rfl) (c_T_requireShortProgram l G u hm) (kVT_requireShortProgram wm_471 ⟨by decide, by decide⟩) (by rfl) (Nat.le_of_ble_eq_true rfl) dT_part_1 ⟨by decide, by decide⟩ ?_
  refine tv_iload_n (pc := 4) dT_part_4 (by rfl) ?_
  refine tv_aload_n (pc := 5) dT_part_5 (by rfl) ?_
  refine tv_getR (pc := 6) 1 tb_0 (by rfl) uwT_ (by decide) wm_136 (by rfl) dT_part_6 ?_
  refine tv_callVi (pc := 9) [] tb_7 (by rfl) (c_C_size l G u code_7) (kVC_size wm_403 ⟨by decide, by decide⟩) (by rfl) (Nat.le_of_ble_eq_true rfl) dT_part_9 ⟨by decide, by decide⟩ ?_
  rw [hs]
  refine tv_callSi (pc := 12) [_, _] (c_T_isBelow l G u _ _) (kST_isBelow wm_329 ⟨by decide, by decide⟩) (by rfl) (Nat.le_of_ble_eq_true rfl) dT_part_12 ⟨by decide, by decide⟩ ?_
  refine tv_if_eq (pc := 15) 30 dT_part_15 (by decide) (fun h15 => ?_) (fun h15 => ?_)
  · skip
    refine tv_iconst (v := 0) (pc := 30) dT_part_30 (by decide) ?_
    exact tv_thrS (pc := 31) [_] (t_T_requireIndex l hl G u) (kS1T_requireIndex wm_488 ⟨by decide, by decide⟩) (by rfl) (Nat.le_of_ble_eq_true rfl) dT_part_31 ⟨by decide, by decide⟩ (by decide) (by decide)
  · skip
    refine tv_iload_n (pc := 18) dT_part_18 (by rfl) ?_
    refine tv_iconst (v := 4) (pc := 19) dT_part_19 (by decide) ?_
    refine tv_callSi (pc := 20) [_, _] (c_T_isBelow l G u _ _) (kST_isBelow wm_329 ⟨by decide, by decide⟩) (by rfl) (Nat.le_of_ble_eq_true rfl) dT_part_20 ⟨by decide, by decide⟩ ?_
    refine tv_if_eq (pc := 23) 30 dT_part_23 (by decide) (fun h23 => ?_) (fun h23 => ?_)
    · skip
      refine tv_iconst (v := 0) (pc := 30) dT_part_30 (by decide) ?_
      exact tv_thrS (pc := 31) [_] (t_T_requireIndex l hl G u) (kS1T_requireIndex wm_488 ⟨by decide, by decide⟩) (by rfl) (Nat.le_of_ble_eq_true rfl) dT_part_31 ⟨by decide, by decide⟩ (by decide) (by decide)
    · skip
      exact absurd ⟨tp_b_p h15, tp_b_p h23⟩ h
set_option maxRecDepth 100000 in
set_option maxHeartbeats 4000000 in
theorem c_T_where (l : Launch) (G : tc_G) (u : tc_S) (hm : ¬ u 0 5 = 0) {n : Nat} (hs : u 7 1 = nI n) (hn : n ≤ 16) {i v : Nat} (hi : i ≤ n) (hv : v < 3) : tc_C tcx G l yT_where wT_where r0T_where 0 0 [.ref (tc_ad G 0), .int (nI i), .int (nI v)] u (tc_Ki (sk_pf (u (26 + (6 + v)) i) 7 0) u) := by
  refine tw_ofV (own := "TracedCode") [some (.ref (tc_ad G 0)), some (.int (nI i)), some (.int (nI v))] (by decide +kernel) rfl (Nat.le_of_ble_eq_true rfl) (by rfl) (fun p e s m args below meth c => ?_)
  refine tv_aload_n (pc := 0) dT_where_0 (by rfl) ?_
  refine tv_callVv (pc := 1) [] tb_0 (by rfl) (c_T_requireShortProgram l G u hm) (kVT_requireShortProgram wm_471 ⟨by decide, by decide⟩) (by rfl) (Nat.le_of_ble_eq_true rfl) dT_where_1 ⟨by decide, by decide⟩ ?_
  refine tv_aload_n (pc := 4) dT_where_4 (by rfl) ?_
  refine tv_iload_n (pc := 5) dT_where_5 (by rfl) ?_
  refine tv_callVi (pc := 6) [_] tb_0 (by rfl) (c_T_isPoint l G u hs _) (kVT_isPoint wm_514 ⟨by decide, by decide⟩) (by rfl) (Nat.le_of_ble_eq_true rfl) dT_where_6 ⟨by decide, by decide⟩ ?_
  refine tv_if_eq (pc := 9) 23 dT_where_9 (by decide) (fun h => absurd h (tp_b_1 (tq_of (by omega) (by omega)))) (fun _ => ?_)
  refine tv_iload_n (pc := 12) dT_where_12 (by rfl) ?_
  refine tv_callSi (pc := 13) [_] (c_T_isVariable l G u _) (kST_isVariable wm_461 ⟨by decide, by decide⟩) (by rfl) (Nat.le_of_ble_eq_true rfl) dT_where_13 ⟨by decide, by decide⟩ ?_
  refine tv_if_eq (pc := 16) 23 dT_where_16 (by decide) (fun h => absurd h (tp_b_1 (tq_of (b := 3) (by decide) hv))) (fun _ => ?_)
  refine tv_iconst (v := 1) (pc := 19) dT_where_19 (by decide) ?_
  refine tv_goto (pc := 20) 24 dT_where_20 (by decide) ?_
  refine tv_callSv (pc := 24) [_] (c_T_requireIndex l G u (by decide)) (kST_requireIndex wm_488 ⟨by decide, by decide⟩) (by rfl) (Nat.le_of_ble_eq_true rfl) dT_where_24 ⟨by decide, by decide⟩ ?_
  refine tv_aload_n (pc := 27) dT_where_27 (by rfl) ?_
  refine tv_getR (pc := 28) 3 tb_0 (by rfl) uwT_ (by decide) wm_138 (by rfl) dT_where_28 ?_
  refine tv_iload_n (pc := 31) dT_where_31 (by rfl) ?_
  refine tv_iload_n (pc := 32) dT_where_32 (by rfl) ?_
  refine tv_callVi (pc := 33) [_, _] tb_24 (by rfl) (c_K_placeOfVariable l G u (tc_ixN (by omega) (by decide)) hv) (kVK_placeOfVariable wm_518 ⟨by decide, by decide⟩) (by rfl) (Nat.le_of_ble_eq_true rfl) dT_where_33 ⟨by decide, by decide⟩ ?_
  exact tv_iret (pc := 36) dT_where_36 rfl (Nat.le_refl _) (Nat.le_refl _) ⟨rfl, rfl⟩
set_option maxRecDepth 100000 in
set_option maxHeartbeats 4000000 in
theorem t_T_where_M (l : Launch) (hl : l.stackTraces = false) (G : tc_G) (u : tc_S) (hm : u 0 5 = 0) (x y : Int32) : tc_T tcx G l yT_where wT_where r1T_where 1 6 [.ref (tc_ad G 0), .int x, .int y] u u "java/lang/IllegalStateException" := by
  refine tw_ofT (own := "TracedCode") [some (.ref (tc_ad G 0)), some (.int x), some (.int y)] (by decide +kernel) rfl (Nat.le_of_ble_eq_true rfl) (by rfl) (fun p e s m args below meth c => ?_)
  refine tv_aload_n (pc := 0) dT_where_0 (by rfl) ?_
  exact tv_thrV (pc := 1) [] tb_0 (by rfl) (t_T_requireShortProgram l hl G u hm) (kV1T_requireShortProgram wm_471 ⟨by decide, by decide⟩) (by rfl) (Nat.le_of_ble_eq_true rfl) dT_where_1 ⟨by decide, by decide⟩ (by decide) (by decide)
set_option maxRecDepth 100000 in
set_option maxHeartbeats 4000000 in
theorem t_T_where_I (l : Launch) (hl : l.stackTraces = false) (G : tc_G) (u : tc_S) (hm : ¬ u 0 5 = 0) {n : Nat} (hs : u 7 1 = nI n) (x y : Int32) (h : ¬ ((¬ x < 0 ∧ ¬ nI (n + 1) ≤ x) ∧ (¬ y < 0 ∧ ¬ 3 ≤ y))) : tc_T tcx G l yT_where wT_where r1T_where 1 6 [.ref (tc_ad G 0), .int x, .int y] u u "java/lang/IndexOutOfBoundsException" := by
  refine tw_ofT (own := "TracedCode") [some (.ref (tc_ad G 0)), some (.int x), some (.int y)] (by decide +kernel) rfl (Nat.le_of_ble_eq_true rfl) (by rfl) (fun p e s m args below meth c => ?_)
  refine tv_aload_n (pc := 0) dT_where_0 (by rfl) ?_
  refine tv_callVv (pc := 1) [] tb_0 (by rfl) (c_T_requireShortProgram l G u hm) (kVT_requireShortProgram wm_471 ⟨by decide, by decide⟩) (by rfl) (Nat.le_of_ble_eq_true rfl) dT_where_1 ⟨by decide, by decide⟩ ?_
  refine tv_aload_n (pc := 4) dT_where_4 (by rfl) ?_
  refine tv_iload_n (pc := 5) dT_where_5 (by rfl) ?_
  refine tv_callVi (pc := 6) [_] tb_0 (by rfl) (c_T_isPoint l G u hs _) (kVT_isPoint wm_514 ⟨by decide, by decide⟩) (by rfl) (Nat.le_of_ble_eq_true rfl) dT_where_6 ⟨by decide, by decide⟩ ?_
  refine tv_if_eq (pc := 9) 23 dT_where_9 (by decide) (fun h9 => ?_) (fun h9 => ?_)
  · skip
    refine tv_iconst (v := 0) (pc := 23) dT_where_23 (by decide) ?_
    exact tv_thrS (pc := 24) [_] (t_T_requireIndex l hl G u) (kS1T_requireIndex wm_488 ⟨by decide, by decide⟩) (by rfl) (Nat.le_of_ble_eq_true rfl) dT_where_24 ⟨by decide, by decide⟩ (by decide) (by decide)
  · skip
    refine tv_iload_n (pc := 12) dT_where_12 (by rfl) ?_
    refine tv_callSi (pc := 13) [_] (c_T_isVariable l G u _) (kST_isVariable wm_461 ⟨by decide, by decide⟩) (by rfl) (Nat.le_of_ble_eq_true rfl) dT_where_13 ⟨by decide, by decide⟩ ?_
    refine tv_if_eq (pc := 16) 23 dT_where_16 (by decide) (fun h16 => ?_) (fun h16 => ?_)
    · skip
      refine tv_iconst (v := 0) (pc := 23) dT_where_23 (by decide) ?_
      exact tv_thrS (pc := 24) [_] (t_T_requireIndex l hl G u) (kS1T_requireIndex wm_488 ⟨by decide, by decide⟩) (by rfl) (Nat.le_of_ble_eq_true rfl) dT_where_24 ⟨by decide, by decide⟩ (by decide) (by decide)
    · skip
      exact absurd ⟨tp_b_p h9, tp_b_p h16⟩ h
set_option maxRecDepth 100000 in
set_option maxHeartbeats 4000000 in
theorem c_T_carriers (l : Launch) (G : tc_G) (u : tc_S) (hm : ¬ u 0 5 = 0) {n : Nat} (hs : u 7 1 = nI n) (hn : n ≤ 16) {i r : Nat} (hi : i ≤ n) (hr : r < 6) : tc_C tcx G l yT_carriers wT_carriers r0T_carriers 0 0 [.ref (tc_ad G 0), .int (nI i), .int (nI r)] u (tc_Ki (u (26 + r) i &&& 63) u) := by
  refine tw_ofV (own := "TracedCode") [some (.ref (tc_ad G 0)), some (.int (nI i)), some (.int (nI r))] (by decide +kernel) rfl (Nat.le_of_ble_eq_true rfl) (by rfl) (fun p e s m args below meth c => ?_)
  refine tv_aload_n (pc := 0) dT_carriers_0 (by rfl) ?_
  refine tv_callVv (pc := 1) [] tb_0 (by rfl) (c_T_requireShortProgram l G u hm) (kVT_requireShortProgram wm_471 ⟨by decide, by decide⟩) (by rfl) (Nat.le_of_ble_eq_true rfl) dT_carriers_1 ⟨by decide, by decide⟩ ?_
  refine tv_aload_n (pc := 4) dT_carriers_4 (by rfl) ?_
  refine tv_iload_n (pc := 5) dT_carriers_5 (by rfl) ?_
  refine tv_callVi (pc := 6) [_] tb_0 (by rfl) (c_T_isPoint l G u hs _) (kVT_isPoint wm_514 ⟨by decide, by decide⟩) (by rfl) (Nat.le_of_ble_eq_true rfl) dT_carriers_6 ⟨by decide, by decide⟩ ?_
  refine tv_if_eq (pc := 9) 23 dT_carriers_9 (by decide) (fun h => absurd h (tp_b_1 (tq_of (by omega) (by omega)))) (fun _ => ?_)
  refine tv_iload_n (pc := 12) dT_carriers_12 (by rfl) ?_
  refine tv_callSi (pc := 13) [_] (c_T_isRegister l G u _) (kST_isRegister wm_326 ⟨by decide, by decide⟩) (by rfl) (Nat.le_of_ble_eq_true rfl) dT_carriers_13 ⟨by decide, by decide⟩ ?_
  refine tv_if_eq (pc := 16) 23 dT_carriers_16 (by decide) (fun h => absurd h (tp_b_1 (tq_of (b := 6) (by decide) hr))) (fun _ => ?_)
  refine tv_iconst (v := 1) (pc := 19) dT_carriers_19 (by decide) ?_
  refine tv_goto (pc := 20) 24 dT_carriers_20 (by decide) ?_
  refine tv_callSv (pc := 24) [_] (c_T_requireIndex l G u (by decide)) (kST_requireIndex wm_488 ⟨by decide, by decide⟩) (by rfl) (Nat.le_of_ble_eq_true rfl) dT_carriers_24 ⟨by decide, by decide⟩ ?_
  refine tv_aload_n (pc := 27) dT_carriers_27 (by rfl) ?_
  refine tv_getR (pc := 28) 3 tb_0 (by rfl) uwT_ (by decide) wm_138 (by rfl) dT_carriers_28 ?_
  refine tv_iload_n (pc := 31) dT_carriers_31 (by rfl) ?_
  refine tv_iload_n (pc := 32) dT_carriers_32 (by rfl) ?_
  refine tv_callVi (pc := 33) [_, _] tb_24 (by rfl) (c_K_ofRegister l G u (tc_ixN (by omega) (by decide)) (tc_ixN (by omega) (by decide))) (kVK_ofRegister wm_529 ⟨by decide, by decide⟩) (by rfl) (Nat.le_of_ble_eq_true rfl) dT_carriers_33 ⟨by decide, by decide⟩ ?_
  exact tv_iret (pc := 36) dT_carriers_36 rfl (Nat.le_refl _) (Nat.le_refl _) ⟨rfl, rfl⟩
set_option maxRecDepth 100000 in
set_option maxHeartbeats 4000000 in
theorem t_T_carriers_M (l : Launch) (hl : l.stackTraces = false) (G : tc_G) (u : tc_S) (hm : u 0 5 = 0) (x y : Int32) : tc_T tcx G l yT_carriers wT_carriers r1T_carriers 1 6 [.ref (tc_ad G 0), .int x, .int y] u u "java/lang/IllegalStateException" := by
  refine tw_ofT (own := "TracedCode") [some (.ref (tc_ad G 0)), some (.int x), some (.int y)] (by decide +kernel) rfl (Nat.le_of_ble_eq_true rfl) (by rfl) (fun p e s m args below meth c => ?_)
  refine tv_aload_n (pc := 0) dT_carriers_0 (by rfl) ?_
  exact tv_thrV (pc := 1) [] tb_0 (by rfl) (t_T_requireShortProgram l hl G u hm) (kV1T_requireShortProgram wm_471 ⟨by decide, by decide⟩) (by rfl) (Nat.le_of_ble_eq_true rfl) dT_carriers_1 ⟨by decide, by decide⟩ (by decide) (by decide)
set_option maxRecDepth 100000 in
set_option maxHeartbeats 4000000 in
theorem t_T_carriers_I (l : Launch) (hl : l.stackTraces = false) (G : tc_G) (u : tc_S) (hm : ¬ u 0 5 = 0) {n : Nat} (hs : u 7 1 = nI n) (x y : Int32) (h : ¬ ((¬ x < 0 ∧ ¬ nI (n + 1) ≤ x) ∧ (¬ y < 0 ∧ ¬ 6 ≤ y))) : tc_T tcx G l yT_carriers wT_carriers r1T_carriers 1 6 [.ref (tc_ad G 0), .int x, .int y] u u "java/lang/IndexOutOfBoundsException" := by
  refine tw_ofT (own := "TracedCode") [some (.ref (tc_ad G 0)), some (.int x), some (.int y)] (by decide +kernel) rfl (Nat.le_of_ble_eq_true rfl) (by rfl) (fun p e s m args below meth c => ?_)
  refine tv_aload_n (pc := 0) dT_carriers_0 (by rfl) ?_
  refine tv_callVv (pc := 1) [] tb_0 (by rfl) (c_T_requireShortProgram l G u hm) (kVT_requireShortProgram wm_471 ⟨by decide, by decide⟩) (by rfl) (Nat.le_of_ble_eq_true rfl) dT_carriers_1 ⟨by decide, by decide⟩ ?_
  refine tv_aload_n (pc := 4) dT_carriers_4 (by rfl) ?_
  refine tv_iload_n (pc := 5) dT_carriers_5 (by rfl) ?_
  refine tv_callVi (pc := 6) [_] tb_0 (by rfl) (c_T_isPoint l G u hs _) (kVT_isPoint wm_514 ⟨by decide, by decide⟩) (by rfl) (Nat.le_of_ble_eq_true rfl) dT_carriers_6 ⟨by decide, by decide⟩ ?_
  refine tv_if_eq (pc := 9) 23 dT_carriers_9 (by decide) (fun h9 => ?_) (fun h9 => ?_)
  · skip
    refine tv_iconst (v := 0) (pc := 23) dT_carriers_23 (by decide) ?_
    exact tv_thrS (pc := 24) [_] (t_T_requireIndex l hl G u) (kS1T_requireIndex wm_488 ⟨by decide, by decide⟩) (by rfl) (Nat.le_of_ble_eq_true rfl) dT_carriers_24 ⟨by decide, by decide⟩ (by decide) (by decide)
  · skip
    refine tv_iload_n (pc := 12) dT_carriers_12 (by rfl) ?_
    refine tv_callSi (pc := 13) [_] (c_T_isRegister l G u _) (kST_isRegister wm_326 ⟨by decide, by decide⟩) (by rfl) (Nat.le_of_ble_eq_true rfl) dT_carriers_13 ⟨by decide, by decide⟩ ?_
    refine tv_if_eq (pc := 16) 23 dT_carriers_16 (by decide) (fun h16 => ?_) (fun h16 => ?_)
    · skip
      refine tv_iconst (v := 0) (pc := 23) dT_carriers_23 (by decide) ?_
      exact tv_thrS (pc := 24) [_] (t_T_requireIndex l hl G u) (kS1T_requireIndex wm_488 ⟨by decide, by decide⟩) (by rfl) (Nat.le_of_ble_eq_true rfl) dT_carriers_24 ⟨by decide, by decide⟩ (by decide) (by decide)
    · skip
      exact absurd ⟨tp_b_p h9, tp_b_p h16⟩ h
set_option maxRecDepth 100000 in
set_option maxHeartbeats 4000000 in
theorem c_T_restart (l : Launch) (G : tc_G) (u : tc_S) (hm : ¬ u 0 5 = 0)  : tc_C tcx G l yT_restart wT_restart r0T_restart 0 0 [.ref (tc_ad G 0)] u (tc_Kv (sn_begin u)) := by
  refine tw_ofV (own := "TracedCode") [some (.ref (tc_ad G 0))] (by decide +kernel) rfl (Nat.le_of_ble_eq_true rfl) (by rfl) (fun p e s m args below meth c => ?_)
  refine tv_aload_n (pc := 0) dT_restart_0 (by rfl) ?_
  refine tv_callVv (pc := 1) [] tb_0 (by rfl) (c_T_requireShortProgram l G u hm) (kVT_requireShortProgram wm_471 ⟨by decide, by decide⟩) (by rfl) (Nat.le_of_ble_eq_true rfl) dT_restart_1 ⟨by decide, by decide⟩ ?_
  refine tv_aload_n (pc := 4) dT_restart_4 (by rfl) ?_
  refine tv_getR (pc := 5) 4 tb_0 (by rfl) uwT_ (by decide) wm_139 (by rfl) dT_restart_5 ?_
  refine tv_callVv (pc := 8) [] tb_47 (by rfl) (c_R_begin l G u) (kVR_begin wm_308 ⟨by decide, by decide⟩) (by rfl) (Nat.le_of_ble_eq_true rfl) dT_restart_8 ⟨by decide, by decide⟩ ?_
  exact tv_vret (pc := 11) dT_restart_11 rfl (Nat.le_refl _) (Nat.le_refl _) ⟨rfl, rfl⟩
set_option maxRecDepth 100000 in
set_option maxHeartbeats 4000000 in
theorem t_T_restart_M (l : Launch) (hl : l.stackTraces = false) (G : tc_G) (u : tc_S) (hm : u 0 5 = 0)  : tc_T tcx G l yT_restart wT_restart r1T_restart 1 6 [.ref (tc_ad G 0)] u u "java/lang/IllegalStateException" := by
  refine tw_ofT (own := "TracedCode") [some (.ref (tc_ad G 0))] (by decide +kernel) rfl (Nat.le_of_ble_eq_true rfl) (by rfl) (fun p e s m args below meth c => ?_)
  refine tv_aload_n (pc := 0) dT_restart_0 (by rfl) ?_
  exact tv_thrV (pc := 1) [] tb_0 (by rfl) (t_T_requireShortProgram l hl G u hm) (kV1T_requireShortProgram wm_471 ⟨by decide, by decide⟩) (by rfl) (Nat.le_of_ble_eq_true rfl) dT_restart_1 ⟨by decide, by decide⟩ (by decide) (by decide)
set_option maxRecDepth 100000 in
set_option maxHeartbeats 4000000 in
theorem c_T_step0 (l : Launch) (G : tc_G) (u : tc_S) (hm : ¬ u 0 5 = 0) {n : Nat} (hs : u 1 1 = nI n) (h : nI n ≤ u 47 4 ∨ ¬ u 47 5 < 200) : tc_C tcx G l yT_step wT_step r0T_step 0 0 [.ref (tc_ad G 0)] u (tc_Ki (-1) u) := by
  refine tw_ofV (own := "TracedCode") [some (.ref (tc_ad G 0))] (by decide +kernel) rfl (Nat.le_of_ble_eq_true rfl) (by rfl) (fun p e s m args below meth c => ?_)
  refine tv_aload_n (pc := 0) dT_step_0 (by rfl) ?_
  refine tv_callVv (pc := 1) [] tb_0 (by rfl) (c_T_requireShortProgram l G u hm) (kVT_requireShortProgram wm_471 ⟨by decide, by decide⟩) (by rfl) (Nat.le_of_ble_eq_true rfl) dT_step_1 ⟨by decide, by decide⟩ ?_
  refine tv_aload_n (pc := 4) dT_step_4 (by rfl) ?_
  refine tv_getR (pc := 5) 4 tb_0 (by rfl) uwT_ (by decide) wm_139 (by rfl) dT_step_5 ?_
  refine tv_aload_n (pc := 8) dT_step_8 (by rfl) ?_
  refine tv_getR (pc := 9) 0 tb_0 (by rfl) uwT_ (by decide) wm_135 (by rfl) dT_step_9 ?_
  refine tv_aload_n (pc := 12) dT_step_12 (by rfl) ?_
  refine tv_getR (pc := 13) 1 tb_0 (by rfl) uwT_ (by decide) wm_136 (by rfl) dT_step_13 ?_
  refine tv_callVi (pc := 16) [_, _] tb_47 (by rfl) (c_R_advance0 l G u hs h) (kVR_advance wm_547 ⟨by decide, by decide⟩) (by rfl) (Nat.le_of_ble_eq_true rfl) dT_step_16 ⟨by decide, by decide⟩ ?_
  exact tv_iret (pc := 19) dT_step_19 rfl (Nat.le_refl _) (Nat.le_refl _) ⟨rfl, rfl⟩
set_option maxRecDepth 100000 in
set_option maxHeartbeats 4000000 in
theorem c_T_step (l : Launch) (G : tc_G) (u : tc_S) (hm : ¬ u 0 5 = 0) {n q : Nat} (hs : u 1 1 = nI n) (hs7 : u 7 1 = nI n) (hn : n ≤ 16) (hq : u 47 4 = nI q) (hqn : q < n) (ht : u 47 5 < 200) (hl : tp_line (pv u 3) q) (hl1 : tp_line (pv u 9) q) (hc : ¬ u 48 2 < 0) (hc1 : ¬ u 51 2 < 0) : tc_C tcx G l yT_step wT_step r0T_step 0 0 [.ref (tc_ad G 0)] u (tc_Ki (nI (sn_nx n (pv u 3) (pv u 9) q u)) (sn_step n (pv u 3) (pv u 9) q u)) := by
  refine tw_ofV (own := "TracedCode") [some (.ref (tc_ad G 0))] (by decide +kernel) rfl (Nat.le_of_ble_eq_true rfl) (by rfl) (fun p e s m args below meth c => ?_)
  refine tv_aload_n (pc := 0) dT_step_0 (by rfl) ?_
  refine tv_callVv (pc := 1) [] tb_0 (by rfl) (c_T_requireShortProgram l G u hm) (kVT_requireShortProgram wm_471 ⟨by decide, by decide⟩) (by rfl) (Nat.le_of_ble_eq_true rfl) dT_step_1 ⟨by decide, by decide⟩ ?_
  refine tv_aload_n (pc := 4) dT_step_4 (by rfl) ?_
  refine tv_getR (pc := 5) 4 tb_0 (by rfl) uwT_ (by decide) wm_139 (by rfl) dT_step_5 ?_
  refine tv_aload_n (pc := 8) dT_step_8 (by rfl) ?_
  refine tv_getR (pc := 9) 0 tb_0 (by rfl) uwT_ (by decide) wm_135 (by rfl) dT_step_9 ?_
  refine tv_aload_n (pc := 12) dT_step_12 (by rfl) ?_
  refine tv_getR (pc := 13) 1 tb_0 (by rfl) uwT_ (by decide) wm_136 (by rfl) dT_step_13 ?_
  refine tv_callVi (pc := 16) [_, _] tb_47 (by rfl) (c_R_advance l G u hs hs7 hn hq hqn ht hl hl1 hc hc1) (kVR_advance wm_547 ⟨by decide, by decide⟩) (by rfl) (Nat.le_of_ble_eq_true rfl) dT_step_16 ⟨by decide, by decide⟩ ?_
  exact tv_iret (pc := 19) dT_step_19 rfl (Nat.le_refl _) (Nat.le_refl _) ⟨rfl, rfl⟩
set_option maxRecDepth 100000 in
set_option maxHeartbeats 4000000 in
theorem t_T_step_M (l : Launch) (hl : l.stackTraces = false) (G : tc_G) (u : tc_S) (hm : u 0 5 = 0)  : tc_T tcx G l yT_step wT_step r1T_step 1 6 [.ref (tc_ad G 0)] u u "java/lang/IllegalStateException" := by
  refine tw_ofT (own := "TracedCode") [some (.ref (tc_ad G 0))] (by decide +kernel) rfl (Nat.le_of_ble_eq_true rfl) (by rfl) (fun p e s m args below meth c => ?_)
  refine tv_aload_n (pc := 0) dT_step_0 (by rfl) ?_
  exact tv_thrV (pc := 1) [] tb_0 (by rfl) (t_T_requireShortProgram l hl G u hm) (kV1T_requireShortProgram wm_471 ⟨by decide, by decide⟩) (by rfl) (Nat.le_of_ble_eq_true rfl) dT_step_1 ⟨by decide, by decide⟩ (by decide) (by decide)
set_option maxRecDepth 100000 in
set_option maxHeartbeats 4000000 in
theorem c_T_line (l : Launch) (G : tc_G) (u : tc_S) (hm : ¬ u 0 5 = 0)  : tc_C tcx G l yT_line wT_line r0T_line 0 0 [.ref (tc_ad G 0)] u (tc_Ki (u 47 4) u) := by
  refine tw_ofV (own := "TracedCode") [some (.ref (tc_ad G 0))] (by decide +kernel) rfl (Nat.le_of_ble_eq_true rfl) (by rfl) (fun p e s m args below meth c => ?_)
  refine tv_aload_n (pc := 0) dT_line_0 (by rfl) ?_
  refine tv_callVv (pc := 1) [] tb_0 (by rfl) (c_T_requireShortProgram l G u hm) (kVT_requireShortProgram wm_471 ⟨by decide, by decide⟩) (by rfl) (Nat.le_of_ble_eq_true rfl) dT_line_1 ⟨by decide, by decide⟩ ?_
  refine tv_aload_n (pc := 4) dT_line_4 (by rfl) ?_
  refine tv_getR (pc := 5) 4 tb_0 (by rfl) uwT_ (by decide) wm_139 (by rfl) dT_line_5 ?_
  refine tv_callVi (pc := 8) [] tb_47 (by rfl) (c_R_position l G u) (kVR_position wm_580 ⟨by decide, by decide⟩) (by rfl) (Nat.le_of_ble_eq_true rfl) dT_line_8 ⟨by decide, by decide⟩ ?_
  exact tv_iret (pc := 11) dT_line_11 rfl (Nat.le_refl _) (Nat.le_refl _) ⟨rfl, rfl⟩
set_option maxRecDepth 100000 in
set_option maxHeartbeats 4000000 in
theorem t_T_line_M (l : Launch) (hl : l.stackTraces = false) (G : tc_G) (u : tc_S) (hm : u 0 5 = 0)  : tc_T tcx G l yT_line wT_line r1T_line 1 6 [.ref (tc_ad G 0)] u u "java/lang/IllegalStateException" := by
  refine tw_ofT (own := "TracedCode") [some (.ref (tc_ad G 0))] (by decide +kernel) rfl (Nat.le_of_ble_eq_true rfl) (by rfl) (fun p e s m args below meth c => ?_)
  refine tv_aload_n (pc := 0) dT_line_0 (by rfl) ?_
  exact tv_thrV (pc := 1) [] tb_0 (by rfl) (t_T_requireShortProgram l hl G u hm) (kV1T_requireShortProgram wm_471 ⟨by decide, by decide⟩) (by rfl) (Nat.le_of_ble_eq_true rfl) dT_line_1 ⟨by decide, by decide⟩ (by decide) (by decide)
set_option maxRecDepth 100000 in
set_option maxHeartbeats 4000000 in
theorem c_T_register1 (l : Launch) (G : tc_G) (u : tc_S) (hm : ¬ u 0 5 = 0) {r : Nat} (hr : r < 6) : tc_C tcx G l yT_register wT_register r0T_register 0 0 [.ref (tc_ad G 0), .int (nI r), .int 1] u (tc_Ki (u 52 r) u) := by
  refine tw_ofV (own := "TracedCode") [some (.ref (tc_ad G 0)), some (.int (nI r)), some (.int 1)] (by decide +kernel) rfl (Nat.le_of_ble_eq_true rfl) (by rfl) (fun p e s m args below meth c => ?_)
  refine tv_aload_n (pc := 0) dT_register_0 (by rfl) ?_
  refine tv_callVv (pc := 1) [] tb_0 (by rfl) (c_T_requireShortProgram l G u hm) (kVT_requireShortProgram wm_471 ⟨by decide, by decide⟩) (by rfl) (Nat.le_of_ble_eq_true rfl) dT_register_1 ⟨by decide, by decide⟩ ?_
  refine tv_iload_n (pc := 4) dT_register_4 (by rfl) ?_
  refine tv_callSi (pc := 5) [_] (c_T_isRegister l G u _) (kST_isRegister wm_326 ⟨by decide, by decide⟩) (by rfl) (Nat.le_of_ble_eq_true rfl) dT_register_5 ⟨by decide, by decide⟩ ?_
  refine tv_callSv (pc := 8) [_] (c_T_requireIndex l G u (tp_b_1 (tq_of (b := 6) (by decide) hr))) (kST_requireIndex wm_488 ⟨by decide, by decide⟩) (by rfl) (Nat.le_of_ble_eq_true rfl) dT_register_8 ⟨by decide, by decide⟩ ?_
  refine tv_aload_n (pc := 11) dT_register_11 (by rfl) ?_
  refine tv_getR (pc := 12) 4 tb_0 (by rfl) uwT_ (by decide) wm_139 (by rfl) dT_register_12 ?_
  refine tv_iload_n (pc := 15) dT_register_15 (by rfl) ?_
  refine tv_callVr (pc := 16) [_] tb_47 (by rfl) (c_R_machine1 l G u (by decide)) (kVR_machine wm_591 ⟨by decide, by decide⟩) (by rfl) (Nat.le_of_ble_eq_true rfl) dT_register_16 ⟨by decide, by decide⟩ ?_
  refine tv_iload_n (pc := 19) dT_register_19 (by rfl) ?_
  refine tv_callVi (pc := 20) [_] tb_51 (by rfl) (c_M_content l G u mach_51 (tc_ixN hr (by decide))) (kVM_content wm_595 ⟨by decide, by decide⟩) (by rfl) (Nat.le_of_ble_eq_true rfl) dT_register_20 ⟨by decide, by decide⟩ ?_
  exact tv_iret (pc := 23) dT_register_23 rfl (Nat.le_refl _) (Nat.le_refl _) ⟨rfl, rfl⟩
set_option maxRecDepth 100000 in
set_option maxHeartbeats 4000000 in
theorem c_T_output1 (l : Launch) (G : tc_G) (u : tc_S) (hm : ¬ u 0 5 = 0) {j c : Nat} (hc : u 51 2 = nI c) (hj : j < c) (hc2 : c ≤ 200) : tc_C tcx G l yT_output wT_output r0T_output 0 0 [.ref (tc_ad G 0), .int (nI j), .int 1] u (tc_Ki (u 53 j) u) := by
  refine tw_ofV (own := "TracedCode") [some (.ref (tc_ad G 0)), some (.int (nI j)), some (.int 1)] (by decide +kernel) rfl (Nat.le_of_ble_eq_true rfl) (by rfl) (fun p e s m args below meth c => ?_)
  refine tv_aload_n (pc := 0) dT_output_0 (by rfl) ?_
  refine tv_callVv (pc := 1) [] tb_0 (by rfl) (c_T_requireShortProgram l G u hm) (kVT_requireShortProgram wm_471 ⟨by decide, by decide⟩) (by rfl) (Nat.le_of_ble_eq_true rfl) dT_output_1 ⟨by decide, by decide⟩ ?_
  refine tv_iload_n (pc := 4) dT_output_4 (by rfl) ?_
  refine tv_aload_n (pc := 5) dT_output_5 (by rfl) ?_
  refine tv_getR (pc := 6) 4 tb_0 (by rfl) uwT_ (by decide) wm_139 (by rfl) dT_output_6 ?_
  refine tv_iload_n (pc := 9) dT_output_9 (by rfl) ?_
  refine tv_callVr (pc := 10) [_] tb_47 (by rfl) (c_R_machine1 l G u (by decide)) (kVR_machine wm_591 ⟨by decide, by decide⟩) (by rfl) (Nat.le_of_ble_eq_true rfl) dT_output_10 ⟨by decide, by decide⟩ ?_
  refine tv_callVi (pc := 13) [] tb_51 (by rfl) (c_M_outputCount l G u mach_51) (kVM_outputCount wm_603 ⟨by decide, by decide⟩) (by rfl) (Nat.le_of_ble_eq_true rfl) dT_output_13 ⟨by decide, by decide⟩ ?_
  refine tv_callSi (pc := 16) [_, _] (c_T_isBelow l G u _ _) (kST_isBelow wm_329 ⟨by decide, by decide⟩) (by rfl) (Nat.le_of_ble_eq_true rfl) dT_output_16 ⟨by decide, by decide⟩ ?_
  refine tv_callSv (pc := 19) [_] (c_T_requireIndex l G u (tp_b_1 (by rw [hc]; exact tq_of (by omega) hj))) (kST_requireIndex wm_488 ⟨by decide, by decide⟩) (by rfl) (Nat.le_of_ble_eq_true rfl) dT_output_19 ⟨by decide, by decide⟩ ?_
  refine tv_aload_n (pc := 22) dT_output_22 (by rfl) ?_
  refine tv_getR (pc := 23) 4 tb_0 (by rfl) uwT_ (by decide) wm_139 (by rfl) dT_output_23 ?_
  refine tv_iload_n (pc := 26) dT_output_26 (by rfl) ?_
  refine tv_callVr (pc := 27) [_] tb_47 (by rfl) (c_R_machine1 l G u (by decide)) (kVR_machine wm_591 ⟨by decide, by decide⟩) (by rfl) (Nat.le_of_ble_eq_true rfl) dT_output_27 ⟨by decide, by decide⟩ ?_
  refine tv_iload_n (pc := 30) dT_output_30 (by rfl) ?_
  refine tv_callVi (pc := 31) [_] tb_51 (by rfl) (c_M_outputAt l G u mach_51 (tc_ixN (by omega) (by decide))) (kVM_outputAt wm_607 ⟨by decide, by decide⟩) (by rfl) (Nat.le_of_ble_eq_true rfl) dT_output_31 ⟨by decide, by decide⟩ ?_
  exact tv_iret (pc := 34) dT_output_34 rfl (Nat.le_refl _) (Nat.le_refl _) ⟨rfl, rfl⟩
set_option maxRecDepth 100000 in
set_option maxHeartbeats 4000000 in
theorem t_T_output_I1 (l : Launch) (hl : l.stackTraces = false) (G : tc_G) (u : tc_S) (hm : ¬ u 0 5 = 0) {c : Nat} (hc : u 51 2 = nI c) (x : Int32) (h : ¬ (¬ x < 0 ∧ ¬ nI c ≤ x)) : tc_T tcx G l yT_output wT_output r1T_output 1 6 [.ref (tc_ad G 0), .int x, .int 1] u u "java/lang/IndexOutOfBoundsException" := by
  refine tw_ofT (own := "TracedCode") [some (.ref (tc_ad G 0)), some (.int x), some (.int 1)] (by decide +kernel) rfl (Nat.le_of_ble_eq_true rfl) (by rfl) (fun p e s m args below meth c => ?_)
  refine tv_aload_n (pc := 0) dT_output_0 (by rfl) ?_
  refine tv_callVv (pc := 1) [] tb_0 (by rfl) (c_T_requireShortProgram l G u hm) (kVT_requireShortProgram wm_471 ⟨by decide, by decide⟩) (by rfl) (Nat.le_of_ble_eq_true rfl) dT_output_1 ⟨by decide, by decide⟩ ?_
  refine tv_iload_n (pc := 4) dT_output_4 (by rfl) ?_
  refine tv_aload_n (pc := 5) dT_output_5 (by rfl) ?_
  refine tv_getR (pc := 6) 4 tb_0 (by rfl) uwT_ (by decide) wm_139 (by rfl) dT_output_6 ?_
  refine tv_iload_n (pc := 9) dT_output_9 (by rfl) ?_
  refine tv_callVr (pc := 10) [_] tb_47 (by rfl) (c_R_machine1 l G u (by decide)) (kVR_machine wm_591 ⟨by decide, by decide⟩) (by rfl) (Nat.le_of_ble_eq_true rfl) dT_output_10 ⟨by decide, by decide⟩ ?_
  refine tv_callVi (pc := 13) [] tb_51 (by rfl) (c_M_outputCount l G u mach_51) (kVM_outputCount wm_603 ⟨by decide, by decide⟩) (by rfl) (Nat.le_of_ble_eq_true rfl) dT_output_13 ⟨by decide, by decide⟩ ?_
  rw [hc]
  refine tv_callSi (pc := 16) [_, _] (c_T_isBelow l G u _ _) (kST_isBelow wm_329 ⟨by decide, by decide⟩) (by rfl) (Nat.le_of_ble_eq_true rfl) dT_output_16 ⟨by decide, by decide⟩ ?_
  rw [tp_b_f h]
  exact tv_thrS (pc := 19) [_] (t_T_requireIndex l hl G u) (kS1T_requireIndex wm_488 ⟨by decide, by decide⟩) (by rfl) (Nat.le_of_ble_eq_true rfl) dT_output_19 ⟨by decide, by decide⟩ (by decide) (by decide)
set_option maxRecDepth 100000 in
set_option maxHeartbeats 4000000 in
theorem c_T_register0 (l : Launch) (G : tc_G) (u : tc_S) (hm : ¬ u 0 5 = 0) {r : Nat} (hr : r < 6) : tc_C tcx G l yT_register wT_register r0T_register 0 0 [.ref (tc_ad G 0), .int (nI r), .int 0] u (tc_Ki (u 49 r) u) := by
  refine tw_ofV (own := "TracedCode") [some (.ref (tc_ad G 0)), some (.int (nI r)), some (.int 0)] (by decide +kernel) rfl (Nat.le_of_ble_eq_true rfl) (by rfl) (fun p e s m args below meth c => ?_)
  refine tv_aload_n (pc := 0) dT_register_0 (by rfl) ?_
  refine tv_callVv (pc := 1) [] tb_0 (by rfl) (c_T_requireShortProgram l G u hm) (kVT_requireShortProgram wm_471 ⟨by decide, by decide⟩) (by rfl) (Nat.le_of_ble_eq_true rfl) dT_register_1 ⟨by decide, by decide⟩ ?_
  refine tv_iload_n (pc := 4) dT_register_4 (by rfl) ?_
  refine tv_callSi (pc := 5) [_] (c_T_isRegister l G u _) (kST_isRegister wm_326 ⟨by decide, by decide⟩) (by rfl) (Nat.le_of_ble_eq_true rfl) dT_register_5 ⟨by decide, by decide⟩ ?_
  refine tv_callSv (pc := 8) [_] (c_T_requireIndex l G u (tp_b_1 (tq_of (b := 6) (by decide) hr))) (kST_requireIndex wm_488 ⟨by decide, by decide⟩) (by rfl) (Nat.le_of_ble_eq_true rfl) dT_register_8 ⟨by decide, by decide⟩ ?_
  refine tv_aload_n (pc := 11) dT_register_11 (by rfl) ?_
  refine tv_getR (pc := 12) 4 tb_0 (by rfl) uwT_ (by decide) wm_139 (by rfl) dT_register_12 ?_
  refine tv_iload_n (pc := 15) dT_register_15 (by rfl) ?_
  refine tv_callVr (pc := 16) [_] tb_47 (by rfl) (c_R_machine0 l G u) (kVR_machine wm_591 ⟨by decide, by decide⟩) (by rfl) (Nat.le_of_ble_eq_true rfl) dT_register_16 ⟨by decide, by decide⟩ ?_
  refine tv_iload_n (pc := 19) dT_register_19 (by rfl) ?_
  refine tv_callVi (pc := 20) [_] tb_48 (by rfl) (c_M_content l G u mach_48 (tc_ixN hr (by decide))) (kVM_content wm_595 ⟨by decide, by decide⟩) (by rfl) (Nat.le_of_ble_eq_true rfl) dT_register_20 ⟨by decide, by decide⟩ ?_
  exact tv_iret (pc := 23) dT_register_23 rfl (Nat.le_refl _) (Nat.le_refl _) ⟨rfl, rfl⟩
set_option maxRecDepth 100000 in
set_option maxHeartbeats 4000000 in
theorem c_T_output0 (l : Launch) (G : tc_G) (u : tc_S) (hm : ¬ u 0 5 = 0) {j c : Nat} (hc : u 48 2 = nI c) (hj : j < c) (hc2 : c ≤ 200) : tc_C tcx G l yT_output wT_output r0T_output 0 0 [.ref (tc_ad G 0), .int (nI j), .int 0] u (tc_Ki (u 50 j) u) := by
  refine tw_ofV (own := "TracedCode") [some (.ref (tc_ad G 0)), some (.int (nI j)), some (.int 0)] (by decide +kernel) rfl (Nat.le_of_ble_eq_true rfl) (by rfl) (fun p e s m args below meth c => ?_)
  refine tv_aload_n (pc := 0) dT_output_0 (by rfl) ?_
  refine tv_callVv (pc := 1) [] tb_0 (by rfl) (c_T_requireShortProgram l G u hm) (kVT_requireShortProgram wm_471 ⟨by decide, by decide⟩) (by rfl) (Nat.le_of_ble_eq_true rfl) dT_output_1 ⟨by decide, by decide⟩ ?_
  refine tv_iload_n (pc := 4) dT_output_4 (by rfl) ?_
  refine tv_aload_n (pc := 5) dT_output_5 (by rfl) ?_
  refine tv_getR (pc := 6) 4 tb_0 (by rfl) uwT_ (by decide) wm_139 (by rfl) dT_output_6 ?_
  refine tv_iload_n (pc := 9) dT_output_9 (by rfl) ?_
  refine tv_callVr (pc := 10) [_] tb_47 (by rfl) (c_R_machine0 l G u) (kVR_machine wm_591 ⟨by decide, by decide⟩) (by rfl) (Nat.le_of_ble_eq_true rfl) dT_output_10 ⟨by decide, by decide⟩ ?_
  refine tv_callVi (pc := 13) [] tb_48 (by rfl) (c_M_outputCount l G u mach_48) (kVM_outputCount wm_603 ⟨by decide, by decide⟩) (by rfl) (Nat.le_of_ble_eq_true rfl) dT_output_13 ⟨by decide, by decide⟩ ?_
  refine tv_callSi (pc := 16) [_, _] (c_T_isBelow l G u _ _) (kST_isBelow wm_329 ⟨by decide, by decide⟩) (by rfl) (Nat.le_of_ble_eq_true rfl) dT_output_16 ⟨by decide, by decide⟩ ?_
  refine tv_callSv (pc := 19) [_] (c_T_requireIndex l G u (tp_b_1 (by rw [hc]; exact tq_of (by omega) hj))) (kST_requireIndex wm_488 ⟨by decide, by decide⟩) (by rfl) (Nat.le_of_ble_eq_true rfl) dT_output_19 ⟨by decide, by decide⟩ ?_
  refine tv_aload_n (pc := 22) dT_output_22 (by rfl) ?_
  refine tv_getR (pc := 23) 4 tb_0 (by rfl) uwT_ (by decide) wm_139 (by rfl) dT_output_23 ?_
  refine tv_iload_n (pc := 26) dT_output_26 (by rfl) ?_
  refine tv_callVr (pc := 27) [_] tb_47 (by rfl) (c_R_machine0 l G u) (kVR_machine wm_591 ⟨by decide, by decide⟩) (by rfl) (Nat.le_of_ble_eq_true rfl) dT_output_27 ⟨by decide, by decide⟩ ?_
  refine tv_iload_n (pc := 30) dT_output_30 (by rfl) ?_
  refine tv_callVi (pc := 31) [_] tb_48 (by rfl) (c_M_outputAt l G u mach_48 (tc_ixN (by omega) (by decide))) (kVM_outputAt wm_607 ⟨by decide, by decide⟩) (by rfl) (Nat.le_of_ble_eq_true rfl) dT_output_31 ⟨by decide, by decide⟩ ?_
  exact tv_iret (pc := 34) dT_output_34 rfl (Nat.le_refl _) (Nat.le_refl _) ⟨rfl, rfl⟩
set_option maxRecDepth 100000 in
set_option maxHeartbeats 4000000 in
theorem t_T_output_I0 (l : Launch) (hl : l.stackTraces = false) (G : tc_G) (u : tc_S) (hm : ¬ u 0 5 = 0) {c : Nat} (hc : u 48 2 = nI c) (x : Int32) (h : ¬ (¬ x < 0 ∧ ¬ nI c ≤ x)) : tc_T tcx G l yT_output wT_output r1T_output 1 6 [.ref (tc_ad G 0), .int x, .int 0] u u "java/lang/IndexOutOfBoundsException" := by
  refine tw_ofT (own := "TracedCode") [some (.ref (tc_ad G 0)), some (.int x), some (.int 0)] (by decide +kernel) rfl (Nat.le_of_ble_eq_true rfl) (by rfl) (fun p e s m args below meth c => ?_)
  refine tv_aload_n (pc := 0) dT_output_0 (by rfl) ?_
  refine tv_callVv (pc := 1) [] tb_0 (by rfl) (c_T_requireShortProgram l G u hm) (kVT_requireShortProgram wm_471 ⟨by decide, by decide⟩) (by rfl) (Nat.le_of_ble_eq_true rfl) dT_output_1 ⟨by decide, by decide⟩ ?_
  refine tv_iload_n (pc := 4) dT_output_4 (by rfl) ?_
  refine tv_aload_n (pc := 5) dT_output_5 (by rfl) ?_
  refine tv_getR (pc := 6) 4 tb_0 (by rfl) uwT_ (by decide) wm_139 (by rfl) dT_output_6 ?_
  refine tv_iload_n (pc := 9) dT_output_9 (by rfl) ?_
  refine tv_callVr (pc := 10) [_] tb_47 (by rfl) (c_R_machine0 l G u) (kVR_machine wm_591 ⟨by decide, by decide⟩) (by rfl) (Nat.le_of_ble_eq_true rfl) dT_output_10 ⟨by decide, by decide⟩ ?_
  refine tv_callVi (pc := 13) [] tb_48 (by rfl) (c_M_outputCount l G u mach_48) (kVM_outputCount wm_603 ⟨by decide, by decide⟩) (by rfl) (Nat.le_of_ble_eq_true rfl) dT_output_13 ⟨by decide, by decide⟩ ?_
  rw [hc]
  refine tv_callSi (pc := 16) [_, _] (c_T_isBelow l G u _ _) (kST_isBelow wm_329 ⟨by decide, by decide⟩) (by rfl) (Nat.le_of_ble_eq_true rfl) dT_output_16 ⟨by decide, by decide⟩ ?_
  rw [tp_b_f h]
  exact tv_thrS (pc := 19) [_] (t_T_requireIndex l hl G u) (kS1T_requireIndex wm_488 ⟨by decide, by decide⟩) (by rfl) (Nat.le_of_ble_eq_true rfl) dT_output_19 ⟨by decide, by decide⟩ (by decide) (by decide)
set_option maxRecDepth 100000 in
set_option maxHeartbeats 4000000 in
theorem t_T_register_M (l : Launch) (hl : l.stackTraces = false) (G : tc_G) (u : tc_S) (hm : u 0 5 = 0) (x y : Int32) : tc_T tcx G l yT_register wT_register r1T_register 1 6 [.ref (tc_ad G 0), .int x, .int y] u u "java/lang/IllegalStateException" := by
  refine tw_ofT (own := "TracedCode") [some (.ref (tc_ad G 0)), some (.int x), some (.int y)] (by decide +kernel) rfl (Nat.le_of_ble_eq_true rfl) (by rfl) (fun p e s m args below meth c => ?_)
  refine tv_aload_n (pc := 0) dT_register_0 (by rfl) ?_
  exact tv_thrV (pc := 1) [] tb_0 (by rfl) (t_T_requireShortProgram l hl G u hm) (kV1T_requireShortProgram wm_471 ⟨by decide, by decide⟩) (by rfl) (Nat.le_of_ble_eq_true rfl) dT_register_1 ⟨by decide, by decide⟩ (by decide) (by decide)
set_option maxRecDepth 100000 in
set_option maxHeartbeats 4000000 in
theorem t_T_output_M (l : Launch) (hl : l.stackTraces = false) (G : tc_G) (u : tc_S) (hm : u 0 5 = 0) (x y : Int32) : tc_T tcx G l yT_output wT_output r1T_output 1 6 [.ref (tc_ad G 0), .int x, .int y] u u "java/lang/IllegalStateException" := by
  refine tw_ofT (own := "TracedCode") [some (.ref (tc_ad G 0)), some (.int x), some (.int y)] (by decide +kernel) rfl (Nat.le_of_ble_eq_true rfl) (by rfl) (fun p e s m args below meth c => ?_)
  refine tv_aload_n (pc := 0) dT_output_0 (by rfl) ?_
  exact tv_thrV (pc := 1) [] tb_0 (by rfl) (t_T_requireShortProgram l hl G u hm) (kV1T_requireShortProgram wm_471 ⟨by decide, by decide⟩) (by rfl) (Nat.le_of_ble_eq_true rfl) dT_output_1 ⟨by decide, by decide⟩ (by decide) (by decide)
set_option maxRecDepth 100000 in
set_option maxHeartbeats 4000000 in
theorem t_T_register_I (l : Launch) (hl : l.stackTraces = false) (G : tc_G) (u : tc_S) (hm : ¬ u 0 5 = 0) (x y : Int32) (h : ¬ (¬ x < 0 ∧ ¬ 6 ≤ x)) : tc_T tcx G l yT_register wT_register r1T_register 1 6 [.ref (tc_ad G 0), .int x, .int y] u u "java/lang/IndexOutOfBoundsException" := by
  refine tw_ofT (own := "TracedCode") [some (.ref (tc_ad G 0)), some (.int x), some (.int y)] (by decide +kernel) rfl (Nat.le_of_ble_eq_true rfl) (by rfl) (fun p e s m args below meth c => ?_)
  refine tv_aload_n (pc := 0) dT_register_0 (by rfl) ?_
  refine tv_callVv (pc := 1) [] tb_0 (by rfl) (c_T_requireShortProgram l G u hm) (kVT_requireShortProgram wm_471 ⟨by decide, by decide⟩) (by rfl) (Nat.le_of_ble_eq_true rfl) dT_register_1 ⟨by decide, by decide⟩ ?_
  refine tv_iload_n (pc := 4) dT_register_4 (by rfl) ?_
  refine tv_callSi (pc := 5) [_] (c_T_isRegister l G u _) (kST_isRegister wm_326 ⟨by decide, by decide⟩) (by rfl) (Nat.le_of_ble_eq_true rfl) dT_register_5 ⟨by decide, by decide⟩ ?_
  rw [tp_b_f h]
  exact tv_thrS (pc := 8) [_] (t_T_requireIndex l hl G u) (kS1T_requireIndex wm_488 ⟨by decide, by decide⟩) (by rfl) (Nat.le_of_ble_eq_true rfl) dT_register_8 ⟨by decide, by decide⟩ (by decide) (by decide)
set_option maxRecDepth 100000 in
set_option maxHeartbeats 4000000 in
theorem c_T_value (l : Launch) (G : tc_G) (u : tc_S) (hm : ¬ u 0 5 = 0) {v : Nat} (hv : v < 3) (hz : u 55 v = 1) : tc_C tcx G l yT_value wT_value r0T_value 0 0 [.ref (tc_ad G 0), .int (nI v)] u (tc_Ki (u 54 v) u) := by
  refine tw_ofV (own := "TracedCode") [some (.ref (tc_ad G 0)), some (.int (nI v))] (by decide +kernel) rfl (Nat.le_of_ble_eq_true rfl) (by rfl) (fun p e s m args below meth c => ?_)
  refine tv_aload_n (pc := 0) dT_value_0 (by rfl) ?_
  refine tv_callVv (pc := 1) [] tb_0 (by rfl) (c_T_requireShortProgram l G u hm) (kVT_requireShortProgram wm_471 ⟨by decide, by decide⟩) (by rfl) (Nat.le_of_ble_eq_true rfl) dT_value_1 ⟨by decide, by decide⟩ ?_
  refine tv_iload_n (pc := 4) dT_value_4 (by rfl) ?_
  refine tv_callSi (pc := 5) [_] (c_T_isVariable l G u _) (kST_isVariable wm_461 ⟨by decide, by decide⟩) (by rfl) (Nat.le_of_ble_eq_true rfl) dT_value_5 ⟨by decide, by decide⟩ ?_
  refine tv_callSv (pc := 8) [_] (c_T_requireIndex l G u (tp_b_1 (tq_of (b := 3) (by decide) hv))) (kST_requireIndex wm_488 ⟨by decide, by decide⟩) (by rfl) (Nat.le_of_ble_eq_true rfl) dT_value_8 ⟨by decide, by decide⟩ ?_
  refine tv_aload_n (pc := 11) dT_value_11 (by rfl) ?_
  refine tv_getR (pc := 12) 4 tb_0 (by rfl) uwT_ (by decide) wm_139 (by rfl) dT_value_12 ?_
  refine tv_iload_n (pc := 15) dT_value_15 (by rfl) ?_
  refine tv_callVi (pc := 16) [_] tb_47 (by rfl) (c_R_hasValue l G u (tc_ixN hv (by decide)) (by rw [hz]; rfl)) (kVR_hasValue wm_618 ⟨by decide, by decide⟩) (by rfl) (Nat.le_of_ble_eq_true rfl) dT_value_16 ⟨by decide, by decide⟩ ?_
  refine tv_callSv (pc := 19) [_] (c_T_requireState l G u (by rw [hz]; decide)) (kST_requireState wm_404 ⟨by decide, by decide⟩) (by rfl) (Nat.le_of_ble_eq_true rfl) dT_value_19 ⟨by decide, by decide⟩ ?_
  refine tv_aload_n (pc := 22) dT_value_22 (by rfl) ?_
  refine tv_getR (pc := 23) 4 tb_0 (by rfl) uwT_ (by decide) wm_139 (by rfl) dT_value_23 ?_
  refine tv_iload_n (pc := 26) dT_value_26 (by rfl) ?_
  refine tv_callVi (pc := 27) [_] tb_47 (by rfl) (c_R_valueOf l G u (tc_ixN hv (by decide))) (kVR_valueOf wm_622 ⟨by decide, by decide⟩) (by rfl) (Nat.le_of_ble_eq_true rfl) dT_value_27 ⟨by decide, by decide⟩ ?_
  exact tv_iret (pc := 30) dT_value_30 rfl (Nat.le_refl _) (Nat.le_refl _) ⟨rfl, rfl⟩
set_option maxRecDepth 100000 in
set_option maxHeartbeats 4000000 in
theorem t_T_value_M (l : Launch) (hl : l.stackTraces = false) (G : tc_G) (u : tc_S) (hm : u 0 5 = 0) (x : Int32) : tc_T tcx G l yT_value wT_value r1T_value 1 6 [.ref (tc_ad G 0), .int x] u u "java/lang/IllegalStateException" := by
  refine tw_ofT (own := "TracedCode") [some (.ref (tc_ad G 0)), some (.int x)] (by decide +kernel) rfl (Nat.le_of_ble_eq_true rfl) (by rfl) (fun p e s m args below meth c => ?_)
  refine tv_aload_n (pc := 0) dT_value_0 (by rfl) ?_
  exact tv_thrV (pc := 1) [] tb_0 (by rfl) (t_T_requireShortProgram l hl G u hm) (kV1T_requireShortProgram wm_471 ⟨by decide, by decide⟩) (by rfl) (Nat.le_of_ble_eq_true rfl) dT_value_1 ⟨by decide, by decide⟩ (by decide) (by decide)
set_option maxRecDepth 100000 in
set_option maxHeartbeats 4000000 in
theorem t_T_value_I (l : Launch) (hl : l.stackTraces = false) (G : tc_G) (u : tc_S) (hm : ¬ u 0 5 = 0) (x : Int32) (h : ¬ (¬ x < 0 ∧ ¬ 3 ≤ x)) : tc_T tcx G l yT_value wT_value r1T_value 1 6 [.ref (tc_ad G 0), .int x] u u "java/lang/IndexOutOfBoundsException" := by
  refine tw_ofT (own := "TracedCode") [some (.ref (tc_ad G 0)), some (.int x)] (by decide +kernel) rfl (Nat.le_of_ble_eq_true rfl) (by rfl) (fun p e s m args below meth c => ?_)
  refine tv_aload_n (pc := 0) dT_value_0 (by rfl) ?_
  refine tv_callVv (pc := 1) [] tb_0 (by rfl) (c_T_requireShortProgram l G u hm) (kVT_requireShortProgram wm_471 ⟨by decide, by decide⟩) (by rfl) (Nat.le_of_ble_eq_true rfl) dT_value_1 ⟨by decide, by decide⟩ ?_
  refine tv_iload_n (pc := 4) dT_value_4 (by rfl) ?_
  refine tv_callSi (pc := 5) [_] (c_T_isVariable l G u _) (kST_isVariable wm_461 ⟨by decide, by decide⟩) (by rfl) (Nat.le_of_ble_eq_true rfl) dT_value_5 ⟨by decide, by decide⟩ ?_
  rw [tp_b_f h]
  exact tv_thrS (pc := 8) [_] (t_T_requireIndex l hl G u) (kS1T_requireIndex wm_488 ⟨by decide, by decide⟩) (by rfl) (Nat.le_of_ble_eq_true rfl) dT_value_8 ⟨by decide, by decide⟩ (by decide) (by decide)
set_option maxRecDepth 100000 in
set_option maxHeartbeats 4000000 in
theorem t_T_value_V (l : Launch) (hl : l.stackTraces = false) (G : tc_G) (u : tc_S) (hm : ¬ u 0 5 = 0) {v : Nat} (hv : v < 3) (hz : u 55 v = 0) : tc_T tcx G l yT_value wT_value r1T_value 1 6 [.ref (tc_ad G 0), .int (nI v)] u u "java/lang/IllegalStateException" := by
  refine tw_ofT (own := "TracedCode") [some (.ref (tc_ad G 0)), some (.int (nI v))] (by decide +kernel) rfl (Nat.le_of_ble_eq_true rfl) (by rfl) (fun p e s m args below meth c => ?_)
  refine tv_aload_n (pc := 0) dT_value_0 (by rfl) ?_
  refine tv_callVv (pc := 1) [] tb_0 (by rfl) (c_T_requireShortProgram l G u hm) (kVT_requireShortProgram wm_471 ⟨by decide, by decide⟩) (by rfl) (Nat.le_of_ble_eq_true rfl) dT_value_1 ⟨by decide, by decide⟩ ?_
  refine tv_iload_n (pc := 4) dT_value_4 (by rfl) ?_
  refine tv_callSi (pc := 5) [_] (c_T_isVariable l G u _) (kST_isVariable wm_461 ⟨by decide, by decide⟩) (by rfl) (Nat.le_of_ble_eq_true rfl) dT_value_5 ⟨by decide, by decide⟩ ?_
  refine tv_callSv (pc := 8) [_] (c_T_requireIndex l G u (tp_b_1 (tq_of (b := 3) (by decide) hv))) (kST_requireIndex wm_488 ⟨by decide, by decide⟩) (by rfl) (Nat.le_of_ble_eq_true rfl) dT_value_8 ⟨by decide, by decide⟩ ?_
  refine tv_aload_n (pc := 11) dT_value_11 (by rfl) ?_
  refine tv_getR (pc := 12) 4 tb_0 (by rfl) uwT_ (by decide) wm_139 (by rfl) dT_value_12 ?_
  refine tv_iload_n (pc := 15) dT_value_15 (by rfl) ?_
  refine tv_callVi (pc := 16) [_] tb_47 (by rfl) (c_R_hasValue l G u (tc_ixN hv (by decide)) (by rw [hz]; rfl)) (kVR_hasValue wm_618 ⟨by decide, by decide⟩) (by rfl) (Nat.le_of_ble_eq_true rfl) dT_value_16 ⟨by decide, by decide⟩ ?_
  rw [hz]
  exact tv_thrS (pc := 19) [_] (t_T_requireState l hl G u) (kS1T_requireState wm_404 ⟨by decide, by decide⟩) (by rfl) (Nat.le_of_ble_eq_true rfl) dT_value_19 ⟨by decide, by decide⟩ (by decide) (by decide)
set_option maxRecDepth 100000 in
set_option maxHeartbeats 4000000 in
theorem c_T_readC (l : Launch) (G : tc_G) (u : tc_S) (hm : ¬ u 0 5 = 0) {v : Nat} (hv : v < 3) {q : Nat} (hq : tc_ix (u 47 4) 17 q) (hc : sk_pf (u (26 + (6 + v)) q) 7 0 = 6) : tc_C tcx G l yT_read wT_read r0T_read 0 0 [.ref (tc_ad G 0), .int (nI v)] u (tc_Ki (u (36 + (6 + v)) q) u) := by
  refine tw_ofV (own := "TracedCode") [some (.ref (tc_ad G 0)), some (.int (nI v)), none] (by decide +kernel) rfl (Nat.le_of_ble_eq_true rfl) (by rfl) (fun p e s m args below meth c => ?_)
  refine tv_aload_n (pc := 0) dT_read_0 (by rfl) ?_
  refine tv_callVv (pc := 1) [] tb_0 (by rfl) (c_T_requireShortProgram l G u hm) (kVT_requireShortProgram wm_471 ⟨by decide, by decide⟩) (by rfl) (Nat.le_of_ble_eq_true rfl) dT_read_1 ⟨by decide, by decide⟩ ?_
  refine tv_iload_n (pc := 4) dT_read_4 (by rfl) ?_
  refine tv_callSi (pc := 5) [_] (c_T_isVariable l G u _) (kST_isVariable wm_461 ⟨by decide, by decide⟩) (by rfl) (Nat.le_of_ble_eq_true rfl) dT_read_5 ⟨by decide, by decide⟩ ?_
  refine tv_callSv (pc := 8) [_] (c_T_requireIndex l G u (tp_b_1 (tq_of (b := 3) (by decide) hv))) (kST_requireIndex wm_488 ⟨by decide, by decide⟩) (by rfl) (Nat.le_of_ble_eq_true rfl) dT_read_8 ⟨by decide, by decide⟩ ?_
  refine tv_aload_n (pc := 11) dT_read_11 (by rfl) ?_
  refine tv_getR (pc := 12) 3 tb_0 (by rfl) uwT_ (by decide) wm_138 (by rfl) dT_read_12 ?_
  refine tv_aload_n (pc := 15) dT_read_15 (by rfl) ?_
  refine tv_getR (pc := 16) 4 tb_0 (by rfl) uwT_ (by decide) wm_139 (by rfl) dT_read_16 ?_
  refine tv_callVi (pc := 19) [] tb_47 (by rfl) (c_R_position l G u) (kVR_position wm_580 ⟨by decide, by decide⟩) (by rfl) (Nat.le_of_ble_eq_true rfl) dT_read_19 ⟨by decide, by decide⟩ ?_
  refine tv_iload_n (pc := 22) dT_read_22 (by rfl) ?_
  refine tv_callVi (pc := 23) [_, _] tb_24 (by rfl) (c_K_placeOfVariable l G u hq hv) (kVK_placeOfVariable wm_518 ⟨by decide, by decide⟩) (by rfl) (Nat.le_of_ble_eq_true rfl) dT_read_23 ⟨by decide, by decide⟩ ?_
  refine tv_istore2 (pc := 26) dT_read_26 (by rfl) ?_
  refine tv_iload_n (pc := 27) dT_read_27 (by rfl) ?_
  refine tv_iconst (v := (-1)) (pc := 28) dT_read_28 (by decide) ?_
  refine tv_icmp_eq (pc := 29) 36 dT_read_29 (by decide) (fun h => absurd h (by rw [hc]; decide)) (fun _ => ?_)
  refine tv_iconst (v := 1) (pc := 32) dT_read_32 (by decide) ?_
  refine tv_goto (pc := 33) 37 dT_read_33 (by decide) ?_
  refine tv_callSv (pc := 37) [_] (c_T_requireFound l G u (by decide)) (kST_requireFound wm_634 ⟨by decide, by decide⟩) (by rfl) (Nat.le_of_ble_eq_true rfl) dT_read_37 ⟨by decide, by decide⟩ ?_
  refine tv_iload_n (pc := 40) dT_read_40 (by rfl) ?_
  refine tv_bipush (v := 6) (pc := 41) dT_read_41 (by decide) ?_
  refine tv_icmp_ne (pc := 43) 62 dT_read_43 (by decide) (fun h => absurd h (fun z => z hc)) (fun _ => ?_)
  refine tv_aload_n (pc := 46) dT_read_46 (by rfl) ?_
  refine tv_getR (pc := 47) 3 tb_0 (by rfl) uwT_ (by decide) wm_138 (by rfl) dT_read_47 ?_
  refine tv_aload_n (pc := 50) dT_read_50 (by rfl) ?_
  refine tv_getR (pc := 51) 4 tb_0 (by rfl) uwT_ (by decide) wm_139 (by rfl) dT_read_51 ?_
  refine tv_callVi (pc := 54) [] tb_47 (by rfl) (c_R_position l G u) (kVR_position wm_580 ⟨by decide, by decide⟩) (by rfl) (Nat.le_of_ble_eq_true rfl) dT_read_54 ⟨by decide, by decide⟩ ?_
  refine tv_iload_n (pc := 57) dT_read_57 (by rfl) ?_
  refine tv_callVi (pc := 58) [_, _] tb_24 (by rfl) (c_K_constantOfVariable l G u hq hv) (kVK_constantOfVariable wm_652 ⟨by decide, by decide⟩) (by rfl) (Nat.le_of_ble_eq_true rfl) dT_read_58 ⟨by decide, by decide⟩ ?_
  exact tv_iret (pc := 61) dT_read_61 rfl (Nat.le_refl _) (Nat.le_refl _) ⟨rfl, rfl⟩
set_option maxRecDepth 100000 in
set_option maxHeartbeats 4000000 in
theorem c_T_readR (l : Launch) (G : tc_G) (u : tc_S) (hm : ¬ u 0 5 = 0) {v : Nat} (hv : v < 3) {q : Nat} (hq : tc_ix (u 47 4) 17 q) {r : Nat} (hr : r < 6) (hc : sk_pf (u (26 + (6 + v)) q) 7 0 = nI r) : tc_C tcx G l yT_read wT_read r0T_read 0 0 [.ref (tc_ad G 0), .int (nI v)] u (tc_Ki (u 52 r) u) := by
  refine tw_ofV (own := "TracedCode") [some (.ref (tc_ad G 0)), some (.int (nI v)), none] (by decide +kernel) rfl (Nat.le_of_ble_eq_true rfl) (by rfl) (fun p e s m args below meth c => ?_)
  refine tv_aload_n (pc := 0) dT_read_0 (by rfl) ?_
  refine tv_callVv (pc := 1) [] tb_0 (by rfl) (c_T_requireShortProgram l G u hm) (kVT_requireShortProgram wm_471 ⟨by decide, by decide⟩) (by rfl) (Nat.le_of_ble_eq_true rfl) dT_read_1 ⟨by decide, by decide⟩ ?_
  refine tv_iload_n (pc := 4) dT_read_4 (by rfl) ?_
  refine tv_callSi (pc := 5) [_] (c_T_isVariable l G u _) (kST_isVariable wm_461 ⟨by decide, by decide⟩) (by rfl) (Nat.le_of_ble_eq_true rfl) dT_read_5 ⟨by decide, by decide⟩ ?_
  refine tv_callSv (pc := 8) [_] (c_T_requireIndex l G u (tp_b_1 (tq_of (b := 3) (by decide) hv))) (kST_requireIndex wm_488 ⟨by decide, by decide⟩) (by rfl) (Nat.le_of_ble_eq_true rfl) dT_read_8 ⟨by decide, by decide⟩ ?_
  refine tv_aload_n (pc := 11) dT_read_11 (by rfl) ?_
  refine tv_getR (pc := 12) 3 tb_0 (by rfl) uwT_ (by decide) wm_138 (by rfl) dT_read_12 ?_
  refine tv_aload_n (pc := 15) dT_read_15 (by rfl) ?_
  refine tv_getR (pc := 16) 4 tb_0 (by rfl) uwT_ (by decide) wm_139 (by rfl) dT_read_16 ?_
  refine tv_callVi (pc := 19) [] tb_47 (by rfl) (c_R_position l G u) (kVR_position wm_580 ⟨by decide, by decide⟩) (by rfl) (Nat.le_of_ble_eq_true rfl) dT_read_19 ⟨by decide, by decide⟩ ?_
  refine tv_iload_n (pc := 22) dT_read_22 (by rfl) ?_
  refine tv_callVi (pc := 23) [_, _] tb_24 (by rfl) (c_K_placeOfVariable l G u hq hv) (kVK_placeOfVariable wm_518 ⟨by decide, by decide⟩) (by rfl) (Nat.le_of_ble_eq_true rfl) dT_read_23 ⟨by decide, by decide⟩ ?_
  refine tv_istore2 (pc := 26) dT_read_26 (by rfl) ?_
  refine tv_iload_n (pc := 27) dT_read_27 (by rfl) ?_
  refine tv_iconst (v := (-1)) (pc := 28) dT_read_28 (by decide) ?_
  refine tv_icmp_eq (pc := 29) 36 dT_read_29 (by decide) (fun h => absurd h (by rw [hc]; exact fun z => absurd (z ▸ nI_pos (n := r) (by omega)) (by decide))) (fun _ => ?_)
  refine tv_iconst (v := 1) (pc := 32) dT_read_32 (by decide) ?_
  refine tv_goto (pc := 33) 37 dT_read_33 (by decide) ?_
  refine tv_callSv (pc := 37) [_] (c_T_requireFound l G u (by decide)) (kST_requireFound wm_634 ⟨by decide, by decide⟩) (by rfl) (Nat.le_of_ble_eq_true rfl) dT_read_37 ⟨by decide, by decide⟩ ?_
  refine tv_iload_n (pc := 40) dT_read_40 (by rfl) ?_
  refine tv_bipush (v := 6) (pc := 41) dT_read_41 (by decide) ?_
  refine tv_icmp_ne (pc := 43) 62 dT_read_43 (by decide) (fun _ => ?_) (fun h => absurd h (by rw [hc]; intro z; exact absurd ((nI_eq (b := 6) (by omega) (by decide)).mp z) (by omega)))
  refine tv_aload_n (pc := 62) dT_read_62 (by rfl) ?_
  refine tv_getR (pc := 63) 4 tb_0 (by rfl) uwT_ (by decide) wm_139 (by rfl) dT_read_63 ?_
  refine tv_iconst (v := 1) (pc := 66) dT_read_66 (by decide) ?_
  refine tv_callVr (pc := 67) [_] tb_47 (by rfl) (c_R_machine1 l G u (by decide)) (kVR_machine wm_591 ⟨by decide, by decide⟩) (by rfl) (Nat.le_of_ble_eq_true rfl) dT_read_67 ⟨by decide, by decide⟩ ?_
  refine tv_iload_n (pc := 70) dT_read_70 (by rfl) ?_
  refine tv_callVi (pc := 71) [_] tb_51 (by rfl) (c_M_content l G u mach_51 (by rw [hc]; exact tc_ixN hr (by decide))) (kVM_content wm_595 ⟨by decide, by decide⟩) (by rfl) (Nat.le_of_ble_eq_true rfl) dT_read_71 ⟨by decide, by decide⟩ ?_
  exact tv_iret (pc := 74) dT_read_74 rfl (Nat.le_refl _) (Nat.le_refl _) ⟨rfl, rfl⟩
set_option maxRecDepth 100000 in
set_option maxHeartbeats 4000000 in
theorem t_T_read_M (l : Launch) (hl : l.stackTraces = false) (G : tc_G) (u : tc_S) (hm : u 0 5 = 0) (x : Int32) : tc_T tcx G l yT_read wT_read r1T_read 1 6 [.ref (tc_ad G 0), .int x] u u "java/lang/IllegalStateException" := by
  refine tw_ofT (own := "TracedCode") [some (.ref (tc_ad G 0)), some (.int x), none] (by decide +kernel) rfl (Nat.le_of_ble_eq_true rfl) (by rfl) (fun p e s m args below meth c => ?_)
  refine tv_aload_n (pc := 0) dT_read_0 (by rfl) ?_
  exact tv_thrV (pc := 1) [] tb_0 (by rfl) (t_T_requireShortProgram l hl G u hm) (kV1T_requireShortProgram wm_471 ⟨by decide, by decide⟩) (by rfl) (Nat.le_of_ble_eq_true rfl) dT_read_1 ⟨by decide, by decide⟩ (by decide) (by decide)
set_option maxRecDepth 100000 in
set_option maxHeartbeats 4000000 in
theorem t_T_read_I (l : Launch) (hl : l.stackTraces = false) (G : tc_G) (u : tc_S) (hm : ¬ u 0 5 = 0) (x : Int32) (h : ¬ (¬ x < 0 ∧ ¬ 3 ≤ x)) : tc_T tcx G l yT_read wT_read r1T_read 1 6 [.ref (tc_ad G 0), .int x] u u "java/lang/IndexOutOfBoundsException" := by
  refine tw_ofT (own := "TracedCode") [some (.ref (tc_ad G 0)), some (.int x), none] (by decide +kernel) rfl (Nat.le_of_ble_eq_true rfl) (by rfl) (fun p e s m args below meth c => ?_)
  refine tv_aload_n (pc := 0) dT_read_0 (by rfl) ?_
  refine tv_callVv (pc := 1) [] tb_0 (by rfl) (c_T_requireShortProgram l G u hm) (kVT_requireShortProgram wm_471 ⟨by decide, by decide⟩) (by rfl) (Nat.le_of_ble_eq_true rfl) dT_read_1 ⟨by decide, by decide⟩ ?_
  refine tv_iload_n (pc := 4) dT_read_4 (by rfl) ?_
  refine tv_callSi (pc := 5) [_] (c_T_isVariable l G u _) (kST_isVariable wm_461 ⟨by decide, by decide⟩) (by rfl) (Nat.le_of_ble_eq_true rfl) dT_read_5 ⟨by decide, by decide⟩ ?_
  rw [tp_b_f h]
  exact tv_thrS (pc := 8) [_] (t_T_requireIndex l hl G u) (kS1T_requireIndex wm_488 ⟨by decide, by decide⟩) (by rfl) (Nat.le_of_ble_eq_true rfl) dT_read_8 ⟨by decide, by decide⟩ (by decide) (by decide)
set_option maxRecDepth 100000 in
set_option maxHeartbeats 4000000 in
theorem t_T_read_F (l : Launch) (hl : l.stackTraces = false) (G : tc_G) (u : tc_S) (hm : ¬ u 0 5 = 0) {v : Nat} (hv : v < 3) {q : Nat} (hq : tc_ix (u 47 4) 17 q) (hc : sk_pf (u (26 + (6 + v)) q) 7 0 = -1) : tc_T tcx G l yT_read wT_read r1T_read 1 6 [.ref (tc_ad G 0), .int (nI v)] u u "java/util/NoSuchElementException" := by
  refine tw_ofT (own := "TracedCode") [some (.ref (tc_ad G 0)), some (.int (nI v)), none] (by decide +kernel) rfl (Nat.le_of_ble_eq_true rfl) (by rfl) (fun p e s m args below meth c => ?_)
  refine tv_aload_n (pc := 0) dT_read_0 (by rfl) ?_
  refine tv_callVv (pc := 1) [] tb_0 (by rfl) (c_T_requireShortProgram l G u hm) (kVT_requireShortProgram wm_471 ⟨by decide, by decide⟩) (by rfl) (Nat.le_of_ble_eq_true rfl) dT_read_1 ⟨by decide, by decide⟩ ?_
  refine tv_iload_n (pc := 4) dT_read_4 (by rfl) ?_
  refine tv_callSi (pc := 5) [_] (c_T_isVariable l G u _) (kST_isVariable wm_461 ⟨by decide, by decide⟩) (by rfl) (Nat.le_of_ble_eq_true rfl) dT_read_5 ⟨by decide, by decide⟩ ?_
  refine tv_callSv (pc := 8) [_] (c_T_requireIndex l G u (tp_b_1 (tq_of (b := 3) (by decide) hv))) (kST_requireIndex wm_488 ⟨by decide, by decide⟩) (by rfl) (Nat.le_of_ble_eq_true rfl) dT_read_8 ⟨by decide, by decide⟩ ?_
  refine tv_aload_n (pc := 11) dT_read_11 (by rfl) ?_
  refine tv_getR (pc := 12) 3 tb_0 (by rfl) uwT_ (by decide) wm_138 (by rfl) dT_read_12 ?_
  refine tv_aload_n (pc := 15) dT_read_15 (by rfl) ?_
  refine tv_getR (pc := 16) 4 tb_0 (by rfl) uwT_ (by decide) wm_139 (by rfl) dT_read_16 ?_
  refine tv_callVi (pc := 19) [] tb_47 (by rfl) (c_R_position l G u) (kVR_position wm_580 ⟨by decide, by decide⟩) (by rfl) (Nat.le_of_ble_eq_true rfl) dT_read_19 ⟨by decide, by decide⟩ ?_
  refine tv_iload_n (pc := 22) dT_read_22 (by rfl) ?_
  refine tv_callVi (pc := 23) [_, _] tb_24 (by rfl) (c_K_placeOfVariable l G u hq hv) (kVK_placeOfVariable wm_518 ⟨by decide, by decide⟩) (by rfl) (Nat.le_of_ble_eq_true rfl) dT_read_23 ⟨by decide, by decide⟩ ?_
  refine tv_istore2 (pc := 26) dT_read_26 (by rfl) ?_
  refine tv_iload_n (pc := 27) dT_read_27 (by rfl) ?_
  refine tv_iconst (v := (-1)) (pc := 28) dT_read_28 (by decide) ?_
  refine tv_icmp_eq (pc := 29) 36 dT_read_29 (by decide) (fun _ => ?_) (fun h => absurd hc h)
  refine tv_iconst (v := 0) (pc := 36) dT_read_36 (by decide) ?_
  exact tv_thrS (pc := 37) [_] (t_T_requireFound l hl G u) (kS1T_requireFound wm_634 ⟨by decide, by decide⟩) (by rfl) (Nat.le_of_ble_eq_true rfl) dT_read_37 ⟨by decide, by decide⟩ (by decide) (by decide)
end
