section
-- ===== PART A: goes FIRST, ahead of the names: the tables' words, and 'selects' of the private methods out of them =====
/-- a private method of a class that the tables say can be made, by its rows of tables_1 -/
def lw_okq (q : MethodName × Nat) : Prop := (q.1.cls ≠ "java/lang/invoke/MethodHandle" ∧ q.1.cls ≠ "java/lang/invoke/VarHandle") ∧ Cond.instantiable q.1.cls q.2 ∈ tables_1 ∧ Cond.privateMethod q.1 ∈ tables_1 ∧ Cond.instanceMethod q.1 ∈ tables_1
theorem lw_p0 : lw_okq (⟨"GroupDesk", "groupAt", "(I)LGroupDesk$Group;"⟩, 4) := ⟨⟨by decide +kernel, by decide +kernel⟩, List.mem_of_getElem? (i := 13) (by decide +kernel), List.mem_of_getElem? (i := 125) (by decide +kernel), List.mem_of_getElem? (i := 126) (by decide +kernel)⟩
theorem lw_p1 : lw_okq (⟨"java/lang/Throwable", "fillInStackTrace", "(I)Ljava/lang/Throwable;"⟩, 6) := ⟨⟨by decide +kernel, by decide +kernel⟩, List.mem_of_getElem? (i := 165) (by decide +kernel), List.mem_of_getElem? (i := 163) (by decide +kernel), List.mem_of_getElem? (i := 164) (by decide +kernel)⟩
theorem lw_p2 : lw_okq (⟨"GroupDesk", "checkMember", "(I)V"⟩, 4) := ⟨⟨by decide +kernel, by decide +kernel⟩, List.mem_of_getElem? (i := 13) (by decide +kernel), List.mem_of_getElem? (i := 195) (by decide +kernel), List.mem_of_getElem? (i := 196) (by decide +kernel)⟩
theorem lw_p3 : lw_okq (⟨"GroupDesk", "checkLog", "(I)V"⟩, 4) := ⟨⟨by decide +kernel, by decide +kernel⟩, List.mem_of_getElem? (i := 13) (by decide +kernel), List.mem_of_getElem? (i := 257) (by decide +kernel), List.mem_of_getElem? (i := 258) (by decide +kernel)⟩
theorem lw_p4 : lw_okq (⟨"GroupDesk", "tick", "()V"⟩, 4) := ⟨⟨by decide +kernel, by decide +kernel⟩, List.mem_of_getElem? (i := 13) (by decide +kernel), List.mem_of_getElem? (i := 321) (by decide +kernel), List.mem_of_getElem? (i := 322) (by decide +kernel)⟩
theorem lw_p5 : lw_okq (⟨"GroupDeskModel", "goes", "(Z)Z"⟩, 12) := ⟨⟨by decide +kernel, by decide +kernel⟩, List.mem_of_getElem? (i := 330) (by decide +kernel), List.mem_of_getElem? (i := 386) (by decide +kernel), List.mem_of_getElem? (i := 387) (by decide +kernel)⟩
theorem lw_p6 : lw_okq (⟨"GroupDeskModel", "mixes", "(I)V"⟩, 12) := ⟨⟨by decide +kernel, by decide +kernel⟩, List.mem_of_getElem? (i := 330) (by decide +kernel), List.mem_of_getElem? (i := 390) (by decide +kernel), List.mem_of_getElem? (i := 391) (by decide +kernel)⟩
theorem lw_p7 : lw_okq (⟨"GroupDeskModel", "mayBeDone", "(I)V"⟩, 12) := ⟨⟨by decide +kernel, by decide +kernel⟩, List.mem_of_getElem? (i := 330) (by decide +kernel), List.mem_of_getElem? (i := 394) (by decide +kernel), List.mem_of_getElem? (i := 395) (by decide +kernel)⟩
theorem lw_p8 : lw_okq (⟨"GroupDeskModel", "count", "(I)I"⟩, 12) := ⟨⟨by decide +kernel, by decide +kernel⟩, List.mem_of_getElem? (i := 330) (by decide +kernel), List.mem_of_getElem? (i := 398) (by decide +kernel), List.mem_of_getElem? (i := 399) (by decide +kernel)⟩
theorem lw_p9 : lw_okq (⟨"GroupDeskModel", "joinedOf", "(I)I"⟩, 12) := ⟨⟨by decide +kernel, by decide +kernel⟩, List.mem_of_getElem? (i := 330) (by decide +kernel), List.mem_of_getElem? (i := 402) (by decide +kernel), List.mem_of_getElem? (i := 403) (by decide +kernel)⟩
theorem lw_p10 : lw_okq (⟨"GroupDeskModel", "empties", "(I)V"⟩, 12) := ⟨⟨by decide +kernel, by decide +kernel⟩, List.mem_of_getElem? (i := 330) (by decide +kernel), List.mem_of_getElem? (i := 406) (by decide +kernel), List.mem_of_getElem? (i := 407) (by decide +kernel)⟩
theorem lw_p11 : lw_okq (⟨"GroupDeskModel", "takesNote", "()Z"⟩, 12) := ⟨⟨by decide +kernel, by decide +kernel⟩, List.mem_of_getElem? (i := 330) (by decide +kernel), List.mem_of_getElem? (i := 410) (by decide +kernel), List.mem_of_getElem? (i := 411) (by decide +kernel)⟩
theorem lw_p12 : lw_okq (⟨"GroupDeskModel", "without", "(I)V"⟩, 12) := ⟨⟨by decide +kernel, by decide +kernel⟩, List.mem_of_getElem? (i := 330) (by decide +kernel), List.mem_of_getElem? (i := 418) (by decide +kernel), List.mem_of_getElem? (i := 419) (by decide +kernel)⟩
theorem lw_p13 : lw_okq (⟨"GroupDeskModel", "owner", "(II)I"⟩, 12) := ⟨⟨by decide +kernel, by decide +kernel⟩, List.mem_of_getElem? (i := 330) (by decide +kernel), List.mem_of_getElem? (i := 430) (by decide +kernel), List.mem_of_getElem? (i := 431) (by decide +kernel)⟩
theorem lw_p14 : lw_okq (⟨"GroupDeskModel", "tick", "(I)V"⟩, 12) := ⟨⟨by decide +kernel, by decide +kernel⟩, List.mem_of_getElem? (i := 330) (by decide +kernel), List.mem_of_getElem? (i := 460) (by decide +kernel), List.mem_of_getElem? (i := 461) (by decide +kernel)⟩
def lw_privs_1 : List (MethodName × Nat) := [(⟨"GroupDesk", "groupAt", "(I)LGroupDesk$Group;"⟩, 4), (⟨"java/lang/Throwable", "fillInStackTrace", "(I)Ljava/lang/Throwable;"⟩, 6), (⟨"GroupDesk", "checkMember", "(I)V"⟩, 4), (⟨"GroupDesk", "checkLog", "(I)V"⟩, 4), (⟨"GroupDesk", "tick", "()V"⟩, 4), (⟨"GroupDeskModel", "goes", "(Z)Z"⟩, 12), (⟨"GroupDeskModel", "mixes", "(I)V"⟩, 12), (⟨"GroupDeskModel", "mayBeDone", "(I)V"⟩, 12), (⟨"GroupDeskModel", "count", "(I)I"⟩, 12), (⟨"GroupDeskModel", "joinedOf", "(I)I"⟩, 12), (⟨"GroupDeskModel", "empties", "(I)V"⟩, 12), (⟨"GroupDeskModel", "takesNote", "()Z"⟩, 12), (⟨"GroupDeskModel", "without", "(I)V"⟩, 12), (⟨"GroupDeskModel", "owner", "(II)I"⟩, 12), (⟨"GroupDeskModel", "tick", "(I)V"⟩, 12)]
theorem lw_r1 : ∀ q ∈ lw_privs_1, lw_okq q := List.forall_mem_cons.mpr ⟨lw_p0, List.forall_mem_cons.mpr ⟨lw_p1, List.forall_mem_cons.mpr ⟨lw_p2, List.forall_mem_cons.mpr ⟨lw_p3, List.forall_mem_cons.mpr ⟨lw_p4, List.forall_mem_cons.mpr ⟨lw_p5, List.forall_mem_cons.mpr ⟨lw_p6, List.forall_mem_cons.mpr ⟨lw_p7, List.forall_mem_cons.mpr ⟨lw_p8, List.forall_mem_cons.mpr ⟨lw_p9, List.forall_mem_cons.mpr ⟨lw_p10, List.forall_mem_cons.mpr ⟨lw_p11, List.forall_mem_cons.mpr ⟨lw_p12, List.forall_mem_cons.mpr ⟨lw_p13, List.forall_mem_cons.mpr ⟨lw_p14, fun _ h => absurd h List.not_mem_nil⟩⟩⟩⟩⟩⟩⟩⟩⟩⟩⟩⟩⟩⟩⟩
def lw_privs : List (MethodName × Nat) := lw_privs_1
def lw_tbl : List Cond := k2_sels lw_privs ++ tables_1
theorem lw_privs_ok : ∀ q ∈ lw_privs, lw_okq q := lw_r1

/-! the good words of the tables: every method's words are its own code and these -/
def kb_B : List Cond := lw_tbl.filter goodWord
theorem kb_mem {w : Cond} {i : Nat} (h : lw_tbl[i]? = some w) (hg : goodWord w = true) : w ∈ kb_B := List.mem_filter.mpr ⟨List.mem_of_getElem? h, hg⟩
theorem kb_good {ws : List Cond} (h : ∀ w ∈ ws, w ∈ kb_B) : GoodIn kb_B ws := fun w hw => ⟨h w hw, good_of_word (List.mem_filter.mp (h w hw)).2⟩
theorem kb_self {c : Cond} (h : c ∈ kb_B) : GoodIn kb_B (c :: kb_B) := kb_good (fun w hw => by rcases List.mem_cons.mp hw with rfl | hw; exact h; exact hw)
theorem kb_V {own C : String} {idx : Nat} {y : MethodName} {c : Cond} (h1 : Cond.methodLink own idx y ∈ kb_B) (h2 : Cond.instanceMethod y ∈ kb_B) (h3 : Cond.selects C y y ∈ kb_B) (h4 : Cond.initialized C ∈ kb_B) (h5 : c ∈ kb_B) : GoodIn kb_B (wsV own idx C y (c :: kb_B)) := kb_good (fun w hw => by
  simp only [wsV, List.cons_append, List.nil_append, List.mem_cons] at hw
  rcases hw with rfl | rfl | rfl | rfl | rfl | hw <;> assumption)
theorem kb_S {own : String} {idx : Nat} {y : MethodName} {c : Cond} (h1 : Cond.methodLink own idx y ∈ kb_B) (h2 : Cond.static y ∈ kb_B) (h4 : Cond.initialized y.cls ∈ kb_B) (h5 : c ∈ kb_B) : GoodIn kb_B (va_wsS own idx y (c :: kb_B)) := kb_good (fun w hw => by
  simp only [va_wsS, List.cons_append, List.nil_append, List.mem_cons] at hw
  rcases hw with rfl | rfl | rfl | rfl | hw <;> assumption)
theorem kb_s0 : (Cond.selects "GroupDesk" ⟨"GroupDesk", "groupAt", "(I)LGroupDesk$Group;"⟩ ⟨"GroupDesk", "groupAt", "(I)LGroupDesk$Group;"⟩) ∈ kb_B := kb_mem (i := 0) (by decide +kernel) (by decide +kernel)
theorem kb_s1 : (Cond.selects "java/lang/Throwable" ⟨"java/lang/Throwable", "fillInStackTrace", "(I)Ljava/lang/Throwable;"⟩ ⟨"java/lang/Throwable", "fillInStackTrace", "(I)Ljava/lang/Throwable;"⟩) ∈ kb_B := kb_mem (i := 1) (by decide +kernel) (by decide +kernel)
theorem kb_s2 : (Cond.selects "GroupDesk" ⟨"GroupDesk", "checkMember", "(I)V"⟩ ⟨"GroupDesk", "checkMember", "(I)V"⟩) ∈ kb_B := kb_mem (i := 2) (by decide +kernel) (by decide +kernel)
theorem kb_s3 : (Cond.selects "GroupDesk" ⟨"GroupDesk", "checkLog", "(I)V"⟩ ⟨"GroupDesk", "checkLog", "(I)V"⟩) ∈ kb_B := kb_mem (i := 3) (by decide +kernel) (by decide +kernel)
theorem kb_s4 : (Cond.selects "GroupDesk" ⟨"GroupDesk", "tick", "()V"⟩ ⟨"GroupDesk", "tick", "()V"⟩) ∈ kb_B := kb_mem (i := 4) (by decide +kernel) (by decide +kernel)
theorem kb_s5 : (Cond.selects "GroupDeskModel" ⟨"GroupDeskModel", "goes", "(Z)Z"⟩ ⟨"GroupDeskModel", "goes", "(Z)Z"⟩) ∈ kb_B := kb_mem (i := 5) (by decide +kernel) (by decide +kernel)
theorem kb_s6 : (Cond.selects "GroupDeskModel" ⟨"GroupDeskModel", "mixes", "(I)V"⟩ ⟨"GroupDeskModel", "mixes", "(I)V"⟩) ∈ kb_B := kb_mem (i := 6) (by decide +kernel) (by decide +kernel)
theorem kb_s7 : (Cond.selects "GroupDeskModel" ⟨"GroupDeskModel", "mayBeDone", "(I)V"⟩ ⟨"GroupDeskModel", "mayBeDone", "(I)V"⟩) ∈ kb_B := kb_mem (i := 7) (by decide +kernel) (by decide +kernel)
theorem kb_s8 : (Cond.selects "GroupDeskModel" ⟨"GroupDeskModel", "count", "(I)I"⟩ ⟨"GroupDeskModel", "count", "(I)I"⟩) ∈ kb_B := kb_mem (i := 8) (by decide +kernel) (by decide +kernel)
theorem kb_s9 : (Cond.selects "GroupDeskModel" ⟨"GroupDeskModel", "joinedOf", "(I)I"⟩ ⟨"GroupDeskModel", "joinedOf", "(I)I"⟩) ∈ kb_B := kb_mem (i := 9) (by decide +kernel) (by decide +kernel)
theorem kb_s10 : (Cond.selects "GroupDeskModel" ⟨"GroupDeskModel", "empties", "(I)V"⟩ ⟨"GroupDeskModel", "empties", "(I)V"⟩) ∈ kb_B := kb_mem (i := 10) (by decide +kernel) (by decide +kernel)
theorem kb_s11 : (Cond.selects "GroupDeskModel" ⟨"GroupDeskModel", "takesNote", "()Z"⟩ ⟨"GroupDeskModel", "takesNote", "()Z"⟩) ∈ kb_B := kb_mem (i := 11) (by decide +kernel) (by decide +kernel)
theorem kb_s12 : (Cond.selects "GroupDeskModel" ⟨"GroupDeskModel", "without", "(I)V"⟩ ⟨"GroupDeskModel", "without", "(I)V"⟩) ∈ kb_B := kb_mem (i := 12) (by decide +kernel) (by decide +kernel)
theorem kb_s13 : (Cond.selects "GroupDeskModel" ⟨"GroupDeskModel", "owner", "(II)I"⟩ ⟨"GroupDeskModel", "owner", "(II)I"⟩) ∈ kb_B := kb_mem (i := 13) (by decide +kernel) (by decide +kernel)
theorem kb_s14 : (Cond.selects "GroupDeskModel" ⟨"GroupDeskModel", "tick", "(I)V"⟩ ⟨"GroupDeskModel", "tick", "(I)V"⟩) ∈ kb_B := kb_mem (i := 14) (by decide +kernel) (by decide +kernel)
theorem kb_0 : (Cond.initialized "GroupDeskLaw") ∈ kb_B := kb_mem (i := 15) (by decide +kernel) (by decide +kernel)
theorem kb_1 : (Cond.initialized "GroupDesk") ∈ kb_B := kb_mem (i := 16) (by decide +kernel) (by decide +kernel)
theorem kb_2 : (Cond.initialized "java/lang/Math") ∈ kb_B := kb_mem (i := 17) (by decide +kernel) (by decide +kernel)
theorem kb_3 : (Cond.initialized "GroupDesk$Notebook") ∈ kb_B := kb_mem (i := 18) (by decide +kernel) (by decide +kernel)
theorem kb_4 : (Cond.initialized "GroupDesk$Group") ∈ kb_B := kb_mem (i := 19) (by decide +kernel) (by decide +kernel)
theorem kb_5 : (Cond.initialized "java/util/Arrays") ∈ kb_B := kb_mem (i := 20) (by decide +kernel) (by decide +kernel)
theorem kb_6 : (Cond.initialized "GroupDeskModel") ∈ kb_B := kb_mem (i := 21) (by decide +kernel) (by decide +kernel)
theorem kb_7 : (Cond.initialized "java/lang/Throwable") ∈ kb_B := kb_mem (i := 22) (by decide +kernel) (by decide +kernel)
theorem kb_8 : (Cond.initialized "java/lang/Exception") ∈ kb_B := kb_mem (i := 23) (by decide +kernel) (by decide +kernel)
theorem kb_9 : (Cond.initialized "java/lang/RuntimeException") ∈ kb_B := kb_mem (i := 24) (by decide +kernel) (by decide +kernel)
theorem kb_10 : (Cond.initialized "java/lang/IllegalArgumentException") ∈ kb_B := kb_mem (i := 25) (by decide +kernel) (by decide +kernel)
theorem kb_11 : (Cond.initialized "java/lang/Integer") ∈ kb_B := kb_mem (i := 26) (by decide +kernel) (by decide +kernel)
theorem kb_12 : (Cond.classLink "GroupDeskLaw" 8 "GroupDesk") ∈ kb_B := kb_mem (i := 27) (by decide +kernel) (by decide +kernel)
theorem kb_13 : (Cond.instantiable "GroupDesk" 4) ∈ kb_B := kb_mem (i := 28) (by decide +kernel) (by decide +kernel)
theorem kb_14 : (Cond.methodLink "GroupDeskLaw" 49 ⟨"GroupDesk", "<init>", "(I)V"⟩) ∈ kb_B := kb_mem (i := 29) (by decide +kernel) (by decide +kernel)
theorem kb_15 : (Cond.instanceMethod ⟨"GroupDesk", "<init>", "(I)V"⟩) ∈ kb_B := kb_mem (i := 30) (by decide +kernel) (by decide +kernel)
theorem kb_16 : (Cond.code ⟨"GroupDesk", "<init>", "(I)V"⟩ prog_1_method_1_code 3 none) ∈ kb_B := kb_mem (i := 31) (by decide +kernel) (by decide +kernel)
theorem kb_17 : (Cond.methodLink "GroupDesk" 1 ⟨"java/lang/Object", "<init>", "()V"⟩) ∈ kb_B := kb_mem (i := 32) (by decide +kernel) (by decide +kernel)
theorem kb_18 : (Cond.instanceMethod ⟨"java/lang/Object", "<init>", "()V"⟩) ∈ kb_B := kb_mem (i := 33) (by decide +kernel) (by decide +kernel)
theorem kb_19 : (Cond.code ⟨"java/lang/Object", "<init>", "()V"⟩ object_method_1_code 1 none) ∈ kb_B := kb_mem (i := 34) (by decide +kernel) (by decide +kernel)
theorem kb_20 : (Cond.methodLink "GroupDesk" 7 ⟨"java/lang/Math", "max", "(II)I"⟩) ∈ kb_B := kb_mem (i := 35) (by decide +kernel) (by decide +kernel)
theorem kb_21 : (Cond.static ⟨"java/lang/Math", "max", "(II)I"⟩) ∈ kb_B := kb_mem (i := 36) (by decide +kernel) (by decide +kernel)
theorem kb_22 : (Cond.code ⟨"java/lang/Math", "max", "(II)I"⟩ prog_9_method_65_code 2 (some .int)) ∈ kb_B := kb_mem (i := 37) (by decide +kernel) (by decide +kernel)
theorem kb_23 : (Cond.methodLink "GroupDesk" 15 ⟨"java/lang/Math", "min", "(II)I"⟩) ∈ kb_B := kb_mem (i := 38) (by decide +kernel) (by decide +kernel)
theorem kb_24 : (Cond.static ⟨"java/lang/Math", "min", "(II)I"⟩) ∈ kb_B := kb_mem (i := 39) (by decide +kernel) (by decide +kernel)
theorem kb_25 : (Cond.code ⟨"java/lang/Math", "min", "(II)I"⟩ prog_9_method_69_code 2 (some .int)) ∈ kb_B := kb_mem (i := 40) (by decide +kernel) (by decide +kernel)
theorem kb_26 : (Cond.classLink "GroupDesk" 22 "GroupDesk$Notebook") ∈ kb_B := kb_mem (i := 41) (by decide +kernel) (by decide +kernel)
theorem kb_27 : (Cond.instantiable "GroupDesk$Notebook" 2) ∈ kb_B := kb_mem (i := 42) (by decide +kernel) (by decide +kernel)
theorem kb_28 : (Cond.methodLinkNest "GroupDesk" 24 ⟨"GroupDesk$Notebook", "<init>", "()V"⟩ "GroupDesk") ∈ lw_tbl := List.mem_of_getElem? (i := 43) (by decide +kernel)
theorem kb_29 : (Cond.instanceMethod ⟨"GroupDesk$Notebook", "<init>", "()V"⟩) ∈ kb_B := kb_mem (i := 44) (by decide +kernel) (by decide +kernel)
theorem kb_30 : (Cond.code ⟨"GroupDesk$Notebook", "<init>", "()V"⟩ prog_3_method_1_code 1 none) ∈ kb_B := kb_mem (i := 45) (by decide +kernel) (by decide +kernel)
theorem kb_31 : (Cond.methodLink "GroupDesk$Notebook" 3 ⟨"java/lang/Object", "<init>", "()V"⟩) ∈ kb_B := kb_mem (i := 46) (by decide +kernel) (by decide +kernel)
theorem kb_32 : (Cond.fieldLink "GroupDesk$Notebook" 9 "GroupDesk$Notebook" "left" "I") ∈ kb_B := kb_mem (i := 47) (by decide +kernel) (by decide +kernel)
theorem kb_33 : (Cond.fieldLink "GroupDesk" 116 "GroupDesk$Notebook" "left" "I") ∈ kb_B := kb_mem (i := 48) (by decide +kernel) (by decide +kernel)
theorem kb_34 : (Cond.fieldLink "GroupDesk$Notebook" 15 "GroupDesk$Notebook" "written" "I") ∈ kb_B := kb_mem (i := 49) (by decide +kernel) (by decide +kernel)
theorem kb_35 : (Cond.fieldLink "GroupDesk" 135 "GroupDesk$Notebook" "written" "I") ∈ kb_B := kb_mem (i := 50) (by decide +kernel) (by decide +kernel)
theorem kb_36 : (Cond.lays "GroupDesk$Notebook" "GroupDesk$Notebook" "left" "I") ∈ kb_B := kb_mem (i := 51) (by decide +kernel) (by decide +kernel)
theorem kb_37 : (Cond.soleField "GroupDesk$Notebook" "left") ∈ kb_B := kb_mem (i := 52) (by decide +kernel) (by decide +kernel)
theorem kb_38 : (Cond.lays "GroupDesk$Notebook" "GroupDesk$Notebook" "written" "I") ∈ kb_B := kb_mem (i := 53) (by decide +kernel) (by decide +kernel)
theorem kb_39 : (Cond.soleField "GroupDesk$Notebook" "written") ∈ kb_B := kb_mem (i := 54) (by decide +kernel) (by decide +kernel)
theorem kb_40 : (Cond.superclass "GroupDesk$Notebook" "java/lang/Object") ∈ kb_B := kb_mem (i := 55) (by decide +kernel) (by decide +kernel)
theorem kb_41 : (Cond.classLink "GroupDesk" 29 "GroupDesk$Group") ∈ kb_B := kb_mem (i := 56) (by decide +kernel) (by decide +kernel)
theorem kb_42 : (Cond.arrayOver (.object "GroupDesk$Group")) ∈ lw_tbl := List.mem_of_getElem? (i := 57) (by decide +kernel)
theorem kb_43 : (Cond.instantiable "GroupDesk$Group" 7) ∈ kb_B := kb_mem (i := 58) (by decide +kernel) (by decide +kernel)
theorem kb_44 : (Cond.methodLink "GroupDesk" 35 ⟨"GroupDesk$Group", "<init>", "()V"⟩) ∈ kb_B := kb_mem (i := 59) (by decide +kernel) (by decide +kernel)
theorem kb_45 : (Cond.instanceMethod ⟨"GroupDesk$Group", "<init>", "()V"⟩) ∈ kb_B := kb_mem (i := 60) (by decide +kernel) (by decide +kernel)
theorem kb_46 : (Cond.code ⟨"GroupDesk$Group", "<init>", "()V"⟩ prog_2_method_1_code 1 none) ∈ kb_B := kb_mem (i := 61) (by decide +kernel) (by decide +kernel)
theorem kb_47 : (Cond.methodLink "GroupDesk$Group" 3 ⟨"java/lang/Object", "<init>", "()V"⟩) ∈ kb_B := kb_mem (i := 62) (by decide +kernel) (by decide +kernel)
theorem kb_48 : (Cond.constantLong "GroupDesk$Group" 23 (-1)) ∈ kb_B := kb_mem (i := 63) (by decide +kernel) (by decide +kernel)
theorem kb_49 : (Cond.methodLink "GroupDesk$Group" 25 ⟨"java/util/Arrays", "fill", "([JJ)V"⟩) ∈ kb_B := kb_mem (i := 64) (by decide +kernel) (by decide +kernel)
theorem kb_50 : (Cond.static ⟨"java/util/Arrays", "fill", "([JJ)V"⟩) ∈ kb_B := kb_mem (i := 65) (by decide +kernel) (by decide +kernel)
theorem kb_51 : (Cond.code ⟨"java/util/Arrays", "fill", "([JJ)V"⟩ prog_13_method_101_code 5 none) ∈ kb_B := kb_mem (i := 66) (by decide +kernel) (by decide +kernel)
theorem kb_52 : (Cond.fieldLink "GroupDesk" 58 "GroupDesk$Group" "generation" "I") ∈ kb_B := kb_mem (i := 67) (by decide +kernel) (by decide +kernel)
theorem kb_53 : (Cond.fieldLink "GroupDesk$Group" 64 "GroupDesk$Group" "generation" "I") ∈ kb_B := kb_mem (i := 68) (by decide +kernel) (by decide +kernel)
theorem kb_54 : (Cond.fieldLink "GroupDesk$Group" 9 "GroupDesk$Group" "state" "I") ∈ kb_B := kb_mem (i := 69) (by decide +kernel) (by decide +kernel)
theorem kb_55 : (Cond.fieldLink "GroupDesk" 55 "GroupDesk$Group" "state" "I") ∈ kb_B := kb_mem (i := 70) (by decide +kernel) (by decide +kernel)
theorem kb_56 : (Cond.fieldLink "GroupDesk$Group" 31 "GroupDesk$Group" "members" "I") ∈ kb_B := kb_mem (i := 71) (by decide +kernel) (by decide +kernel)
theorem kb_57 : (Cond.fieldLink "GroupDesk" 97 "GroupDesk$Group" "members" "I") ∈ kb_B := kb_mem (i := 72) (by decide +kernel) (by decide +kernel)
theorem kb_58 : (Cond.fieldLink "GroupDesk$Group" 34 "GroupDesk$Group" "joined" "I") ∈ kb_B := kb_mem (i := 73) (by decide +kernel) (by decide +kernel)
theorem kb_59 : (Cond.fieldLink "GroupDesk" 100 "GroupDesk$Group" "joined" "I") ∈ kb_B := kb_mem (i := 74) (by decide +kernel) (by decide +kernel)
theorem kb_60 : (Cond.fieldLink "GroupDesk$Group" 37 "GroupDesk$Group" "limit" "I") ∈ kb_B := kb_mem (i := 75) (by decide +kernel) (by decide +kernel)
theorem kb_61 : (Cond.fieldLink "GroupDesk$Group" 15 "GroupDesk$Group" "heard" "[I") ∈ kb_B := kb_mem (i := 76) (by decide +kernel) (by decide +kernel)
theorem kb_62 : (Cond.fieldLink "GroupDesk" 68 "GroupDesk$Group" "heard" "[I") ∈ kb_B := kb_mem (i := 77) (by decide +kernel) (by decide +kernel)
theorem kb_63 : (Cond.fieldLink "GroupDesk$Group" 19 "GroupDesk$Group" "offsets" "[J") ∈ kb_B := kb_mem (i := 78) (by decide +kernel) (by decide +kernel)
theorem kb_64 : (Cond.fieldLink "GroupDesk" 93 "GroupDesk$Group" "offsets" "[J") ∈ kb_B := kb_mem (i := 79) (by decide +kernel) (by decide +kernel)
theorem kb_65 : (Cond.lays "GroupDesk$Group" "GroupDesk$Group" "generation" "I") ∈ kb_B := kb_mem (i := 80) (by decide +kernel) (by decide +kernel)
theorem kb_66 : (Cond.soleField "GroupDesk$Group" "generation") ∈ kb_B := kb_mem (i := 81) (by decide +kernel) (by decide +kernel)
theorem kb_67 : (Cond.lays "GroupDesk$Group" "GroupDesk$Group" "state" "I") ∈ kb_B := kb_mem (i := 82) (by decide +kernel) (by decide +kernel)
theorem kb_68 : (Cond.soleField "GroupDesk$Group" "state") ∈ kb_B := kb_mem (i := 83) (by decide +kernel) (by decide +kernel)
theorem kb_69 : (Cond.lays "GroupDesk$Group" "GroupDesk$Group" "members" "I") ∈ kb_B := kb_mem (i := 84) (by decide +kernel) (by decide +kernel)
theorem kb_70 : (Cond.soleField "GroupDesk$Group" "members") ∈ kb_B := kb_mem (i := 85) (by decide +kernel) (by decide +kernel)
theorem kb_71 : (Cond.lays "GroupDesk$Group" "GroupDesk$Group" "joined" "I") ∈ kb_B := kb_mem (i := 86) (by decide +kernel) (by decide +kernel)
theorem kb_72 : (Cond.soleField "GroupDesk$Group" "joined") ∈ kb_B := kb_mem (i := 87) (by decide +kernel) (by decide +kernel)
theorem kb_73 : (Cond.lays "GroupDesk$Group" "GroupDesk$Group" "limit" "I") ∈ kb_B := kb_mem (i := 88) (by decide +kernel) (by decide +kernel)
theorem kb_74 : (Cond.soleField "GroupDesk$Group" "limit") ∈ kb_B := kb_mem (i := 89) (by decide +kernel) (by decide +kernel)
theorem kb_75 : (Cond.laysFinal "GroupDesk$Group" "GroupDesk$Group" "heard" "[I") ∈ kb_B := kb_mem (i := 90) (by decide +kernel) (by decide +kernel)
theorem kb_76 : (Cond.soleField "GroupDesk$Group" "heard") ∈ kb_B := kb_mem (i := 91) (by decide +kernel) (by decide +kernel)
theorem kb_77 : (Cond.laysFinal "GroupDesk$Group" "GroupDesk$Group" "offsets" "[J") ∈ kb_B := kb_mem (i := 92) (by decide +kernel) (by decide +kernel)
theorem kb_78 : (Cond.soleField "GroupDesk$Group" "offsets") ∈ kb_B := kb_mem (i := 93) (by decide +kernel) (by decide +kernel)
theorem kb_79 : (Cond.superclass "GroupDesk$Group" "java/lang/Object") ∈ kb_B := kb_mem (i := 94) (by decide +kernel) (by decide +kernel)
theorem kb_80 : (Cond.arrayClass .int) ∈ kb_B := kb_mem (i := 95) (by decide +kernel) (by decide +kernel)
theorem kb_81 : (Cond.arrayClass .long) ∈ kb_B := kb_mem (i := 96) (by decide +kernel) (by decide +kernel)
theorem kb_82 : (Cond.fieldLink "GroupDesk" 18 "GroupDesk" "logs" "I") ∈ kb_B := kb_mem (i := 97) (by decide +kernel) (by decide +kernel)
theorem kb_83 : (Cond.fieldLink "GroupDesk" 31 "GroupDesk" "groups" "[LGroupDesk$Group;") ∈ kb_B := kb_mem (i := 98) (by decide +kernel) (by decide +kernel)
theorem kb_84 : (Cond.fieldLink "GroupDesk" 25 "GroupDesk" "notebook" "LGroupDesk$Notebook;") ∈ kb_B := kb_mem (i := 99) (by decide +kernel) (by decide +kernel)
theorem kb_85 : (Cond.fieldLink "GroupDesk" 44 "GroupDesk" "time" "I") ∈ kb_B := kb_mem (i := 100) (by decide +kernel) (by decide +kernel)
theorem kb_86 : (Cond.laysFinal "GroupDesk" "GroupDesk" "logs" "I") ∈ kb_B := kb_mem (i := 101) (by decide +kernel) (by decide +kernel)
theorem kb_87 : (Cond.soleField "GroupDesk" "logs") ∈ kb_B := kb_mem (i := 102) (by decide +kernel) (by decide +kernel)
theorem kb_88 : (Cond.laysFinal "GroupDesk" "GroupDesk" "groups" "[LGroupDesk$Group;") ∈ kb_B := kb_mem (i := 103) (by decide +kernel) (by decide +kernel)
theorem kb_89 : (Cond.soleField "GroupDesk" "groups") ∈ kb_B := kb_mem (i := 104) (by decide +kernel) (by decide +kernel)
theorem kb_90 : (Cond.laysFinal "GroupDesk" "GroupDesk" "notebook" "LGroupDesk$Notebook;") ∈ kb_B := kb_mem (i := 105) (by decide +kernel) (by decide +kernel)
theorem kb_91 : (Cond.soleField "GroupDesk" "notebook") ∈ kb_B := kb_mem (i := 106) (by decide +kernel) (by decide +kernel)
theorem kb_92 : (Cond.lays "GroupDesk" "GroupDesk" "time" "I") ∈ kb_B := kb_mem (i := 107) (by decide +kernel) (by decide +kernel)
theorem kb_93 : (Cond.soleField "GroupDesk" "time") ∈ kb_B := kb_mem (i := 108) (by decide +kernel) (by decide +kernel)
theorem kb_94 : (Cond.superclass "GroupDesk" "java/lang/Object") ∈ kb_B := kb_mem (i := 109) (by decide +kernel) (by decide +kernel)
theorem kb_95 : (Cond.methodLink "GroupDeskLaw" 89 ⟨"GroupDesk", "restart", "()I"⟩) ∈ kb_B := kb_mem (i := 110) (by decide +kernel) (by decide +kernel)
theorem kb_96 : (Cond.instanceMethod ⟨"GroupDesk", "restart", "()I"⟩) ∈ kb_B := kb_mem (i := 111) (by decide +kernel) (by decide +kernel)
theorem kb_97 : (Cond.selects "GroupDesk" ⟨"GroupDesk", "restart", "()I"⟩ ⟨"GroupDesk", "restart", "()I"⟩) ∈ kb_B := kb_mem (i := 112) (by decide +kernel) (by decide +kernel)
theorem kb_98 : (Cond.code ⟨"GroupDesk", "restart", "()I"⟩ prog_1_method_10_code 3 (some .int)) ∈ kb_B := kb_mem (i := 113) (by decide +kernel) (by decide +kernel)
theorem kb_99 : (Cond.methodLink "GroupDesk" 119 ⟨"java/lang/Integer", "bitCount", "(I)I"⟩) ∈ kb_B := kb_mem (i := 114) (by decide +kernel) (by decide +kernel)
theorem kb_100 : (Cond.static ⟨"java/lang/Integer", "bitCount", "(I)I"⟩) ∈ kb_B := kb_mem (i := 115) (by decide +kernel) (by decide +kernel)
theorem kb_101 : (Cond.code ⟨"java/lang/Integer", "bitCount", "(I)I"⟩ prog_8_method_49_code 1 (some .int)) ∈ kb_B := kb_mem (i := 116) (by decide +kernel) (by decide +kernel)
theorem kb_102 : (Cond.constant "java/lang/Integer" 265 1431655765) ∈ kb_B := kb_mem (i := 117) (by decide +kernel) (by decide +kernel)
theorem kb_103 : (Cond.constant "java/lang/Integer" 266 858993459) ∈ kb_B := kb_mem (i := 118) (by decide +kernel) (by decide +kernel)
theorem kb_104 : (Cond.constant "java/lang/Integer" 267 252645135) ∈ kb_B := kb_mem (i := 119) (by decide +kernel) (by decide +kernel)
theorem kb_105 : (Cond.methodLink "GroupDesk" 124 ⟨"GroupDesk$Group", "clear", "()V"⟩) ∈ kb_B := kb_mem (i := 120) (by decide +kernel) (by decide +kernel)
theorem kb_106 : (Cond.instanceMethod ⟨"GroupDesk$Group", "clear", "()V"⟩) ∈ kb_B := kb_mem (i := 121) (by decide +kernel) (by decide +kernel)
theorem kb_107 : (Cond.selects "GroupDesk$Group" ⟨"GroupDesk$Group", "clear", "()V"⟩ ⟨"GroupDesk$Group", "clear", "()V"⟩) ∈ kb_B := kb_mem (i := 122) (by decide +kernel) (by decide +kernel)
theorem kb_108 : (Cond.code ⟨"GroupDesk$Group", "clear", "()V"⟩ prog_2_method_4_code 1 none) ∈ kb_B := kb_mem (i := 123) (by decide +kernel) (by decide +kernel)
theorem kb_109 : (Cond.methodLink "GroupDeskLaw" 96 ⟨"GroupDesk", "notes", "()I"⟩) ∈ kb_B := kb_mem (i := 124) (by decide +kernel) (by decide +kernel)
theorem kb_110 : (Cond.instanceMethod ⟨"GroupDesk", "notes", "()I"⟩) ∈ kb_B := kb_mem (i := 125) (by decide +kernel) (by decide +kernel)
theorem kb_111 : (Cond.selects "GroupDesk" ⟨"GroupDesk", "notes", "()I"⟩ ⟨"GroupDesk", "notes", "()I"⟩) ∈ kb_B := kb_mem (i := 126) (by decide +kernel) (by decide +kernel)
theorem kb_112 : (Cond.code ⟨"GroupDesk", "notes", "()I"⟩ prog_1_method_12_code 1 (some .int)) ∈ kb_B := kb_mem (i := 127) (by decide +kernel) (by decide +kernel)
theorem kb_113 : (Cond.methodLink "GroupDeskLaw" 43 ⟨"GroupDeskLaw", "cell", "([II)I"⟩) ∈ kb_B := kb_mem (i := 128) (by decide +kernel) (by decide +kernel)
theorem kb_114 : (Cond.static ⟨"GroupDeskLaw", "cell", "([II)I"⟩) ∈ kb_B := kb_mem (i := 129) (by decide +kernel) (by decide +kernel)
theorem kb_115 : (Cond.code ⟨"GroupDeskLaw", "cell", "([II)I"⟩ method_2_code 2 (some .int)) ∈ kb_B := kb_mem (i := 130) (by decide +kernel) (by decide +kernel)
theorem kb_116 : (Cond.methodLink "GroupDeskLaw" 55 ⟨"GroupDeskLaw", "join", "(LGroupDesk;II[J)I"⟩) ∈ kb_B := kb_mem (i := 131) (by decide +kernel) (by decide +kernel)
theorem kb_117 : (Cond.static ⟨"GroupDeskLaw", "join", "(LGroupDesk;II[J)I"⟩) ∈ kb_B := kb_mem (i := 132) (by decide +kernel) (by decide +kernel)
theorem kb_118 : (Cond.codeWith ⟨"GroupDeskLaw", "join", "(LGroupDesk;II[J)I"⟩ method_3_code 5 (some .int) [(0, 10, 13, 13)]) ∈ kb_B := kb_mem (i := 133) (by decide +kernel) (by decide +kernel)
theorem kb_119 : (Cond.classLink "GroupDeskLaw" 13 "java/lang/IllegalArgumentException") ∈ kb_B := kb_mem (i := 134) (by decide +kernel) (by decide +kernel)
theorem kb_120 : (Cond.methodLink "GroupDeskLaw" 7 ⟨"GroupDesk", "join", "(II)I"⟩) ∈ kb_B := kb_mem (i := 135) (by decide +kernel) (by decide +kernel)
theorem kb_121 : (Cond.instanceMethod ⟨"GroupDesk", "join", "(II)I"⟩) ∈ kb_B := kb_mem (i := 136) (by decide +kernel) (by decide +kernel)
theorem kb_122 : (Cond.selects "GroupDesk" ⟨"GroupDesk", "join", "(II)I"⟩ ⟨"GroupDesk", "join", "(II)I"⟩) ∈ kb_B := kb_mem (i := 137) (by decide +kernel) (by decide +kernel)
theorem kb_123 : (Cond.code ⟨"GroupDesk", "join", "(II)I"⟩ prog_1_method_2_code 4 (some .int)) ∈ kb_B := kb_mem (i := 138) (by decide +kernel) (by decide +kernel)
theorem kb_124 : (Cond.methodLink "GroupDesk" 36 ⟨"GroupDesk", "groupAt", "(I)LGroupDesk$Group;"⟩) ∈ kb_B := kb_mem (i := 139) (by decide +kernel) (by decide +kernel)
theorem kb_125 : (Cond.privateMethod ⟨"GroupDesk", "groupAt", "(I)LGroupDesk$Group;"⟩) ∈ lw_tbl := List.mem_of_getElem? (i := 140) (by decide +kernel)
theorem kb_126 : (Cond.instanceMethod ⟨"GroupDesk", "groupAt", "(I)LGroupDesk$Group;"⟩) ∈ kb_B := kb_mem (i := 141) (by decide +kernel) (by decide +kernel)
theorem kb_127 : (Cond.code ⟨"GroupDesk", "groupAt", "(I)LGroupDesk$Group;"⟩ prog_1_method_14_code 2 (some (.object "GroupDesk$Group"))) ∈ kb_B := kb_mem (i := 142) (by decide +kernel) (by decide +kernel)
theorem kb_128 : (Cond.classLink "GroupDesk" 78 "java/lang/IllegalArgumentException") ∈ kb_B := kb_mem (i := 143) (by decide +kernel) (by decide +kernel)
theorem kb_129 : (Cond.instantiable "java/lang/IllegalArgumentException" 6) ∈ kb_B := kb_mem (i := 144) (by decide +kernel) (by decide +kernel)
theorem kb_130 : (Cond.castable "java/lang/IllegalArgumentException" "java/lang/IllegalArgumentException") ∈ lw_tbl := List.mem_of_getElem? (i := 145) (by decide +kernel)
theorem kb_131 : (Cond.declares ⟨"java/lang/RuntimeException", "<init>", "()V"⟩) ∈ lw_tbl := List.mem_of_getElem? (i := 146) (by decide +kernel)
theorem kb_132 : (Cond.declares ⟨"java/lang/RuntimeException", "<init>", "(Ljava/lang/String;)V"⟩) ∈ lw_tbl := List.mem_of_getElem? (i := 147) (by decide +kernel)
theorem kb_133 : (Cond.declares ⟨"java/lang/Exception", "<init>", "()V"⟩) ∈ lw_tbl := List.mem_of_getElem? (i := 148) (by decide +kernel)
theorem kb_134 : (Cond.declares ⟨"java/lang/Exception", "<init>", "(Ljava/lang/String;)V"⟩) ∈ lw_tbl := List.mem_of_getElem? (i := 149) (by decide +kernel)
theorem kb_135 : (Cond.declares ⟨"java/lang/Throwable", "<init>", "()V"⟩) ∈ lw_tbl := List.mem_of_getElem? (i := 150) (by decide +kernel)
theorem kb_136 : (Cond.declares ⟨"java/lang/Throwable", "<init>", "(Ljava/lang/String;)V"⟩) ∈ lw_tbl := List.mem_of_getElem? (i := 151) (by decide +kernel)
theorem kb_137 : (Cond.selects "java/lang/IllegalArgumentException" ⟨"java/lang/Throwable", "fillInStackTrace", "(I)Ljava/lang/Throwable;"⟩ ⟨"java/lang/Throwable", "fillInStackTrace", "(I)Ljava/lang/Throwable;"⟩) ∈ kb_B := kb_mem (i := 152) (by decide +kernel) (by decide +kernel)
theorem kb_138 : (Cond.selects "java/lang/IllegalArgumentException" ⟨"java/lang/Throwable", "fillInStackTrace", "()Ljava/lang/Throwable;"⟩ ⟨"java/lang/Throwable", "fillInStackTrace", "()Ljava/lang/Throwable;"⟩) ∈ kb_B := kb_mem (i := 153) (by decide +kernel) (by decide +kernel)
theorem kb_139 : (Cond.lays "java/lang/IllegalArgumentException" "java/lang/Throwable" "cause" "Ljava/lang/Throwable;") ∈ kb_B := kb_mem (i := 154) (by decide +kernel) (by decide +kernel)
theorem kb_140 : (Cond.lays "java/lang/Throwable" "java/lang/Throwable" "cause" "Ljava/lang/Throwable;") ∈ kb_B := kb_mem (i := 155) (by decide +kernel) (by decide +kernel)
theorem kb_141 : (Cond.lays "java/lang/IllegalArgumentException" "java/lang/Throwable" "stackTrace" "[Ljava/lang/StackTraceElement;") ∈ kb_B := kb_mem (i := 156) (by decide +kernel) (by decide +kernel)
theorem kb_142 : (Cond.lays "java/lang/Throwable" "java/lang/Throwable" "stackTrace" "[Ljava/lang/StackTraceElement;") ∈ kb_B := kb_mem (i := 157) (by decide +kernel) (by decide +kernel)
theorem kb_143 : (Cond.lays "java/lang/IllegalArgumentException" "java/lang/Throwable" "suppressedExceptions" "Ljava/util/List;") ∈ kb_B := kb_mem (i := 158) (by decide +kernel) (by decide +kernel)
theorem kb_144 : (Cond.lays "java/lang/Throwable" "java/lang/Throwable" "suppressedExceptions" "Ljava/util/List;") ∈ kb_B := kb_mem (i := 159) (by decide +kernel) (by decide +kernel)
theorem kb_145 : (Cond.lays "java/lang/IllegalArgumentException" "java/lang/Throwable" "detailMessage" "Ljava/lang/String;") ∈ kb_B := kb_mem (i := 160) (by decide +kernel) (by decide +kernel)
theorem kb_146 : (Cond.lays "java/lang/Throwable" "java/lang/Throwable" "detailMessage" "Ljava/lang/String;") ∈ kb_B := kb_mem (i := 161) (by decide +kernel) (by decide +kernel)
theorem kb_147 : (Cond.lays "java/lang/IllegalArgumentException" "java/lang/Throwable" "backtrace" "Ljava/lang/Object;") ∈ kb_B := kb_mem (i := 162) (by decide +kernel) (by decide +kernel)
theorem kb_148 : (Cond.lays "java/lang/Throwable" "java/lang/Throwable" "backtrace" "Ljava/lang/Object;") ∈ kb_B := kb_mem (i := 163) (by decide +kernel) (by decide +kernel)
theorem kb_149 : (Cond.fieldLink "java/lang/Throwable" 198 "java/lang/Throwable" "backtrace" "Ljava/lang/Object;") ∈ kb_B := kb_mem (i := 164) (by decide +kernel) (by decide +kernel)
theorem kb_150 : (Cond.superclass "java/lang/Throwable" "java/lang/Object") ∈ kb_B := kb_mem (i := 165) (by decide +kernel) (by decide +kernel)
theorem kb_151 : (Cond.instanceMethod ⟨"java/lang/Throwable", "<init>", "()V"⟩) ∈ kb_B := kb_mem (i := 166) (by decide +kernel) (by decide +kernel)
theorem kb_152 : (Cond.code ⟨"java/lang/Throwable", "<init>", "()V"⟩ prog_12_method_1_code 1 none) ∈ kb_B := kb_mem (i := 167) (by decide +kernel) (by decide +kernel)
theorem kb_153 : (Cond.methodLink "java/lang/Throwable" 1 ⟨"java/lang/Object", "<init>", "()V"⟩) ∈ kb_B := kb_mem (i := 168) (by decide +kernel) (by decide +kernel)
theorem kb_154 : (Cond.fieldLink "java/lang/Throwable" 13 "java/lang/Throwable" "UNASSIGNED_STACK" "[Ljava/lang/StackTraceElement;") ∈ kb_B := kb_mem (i := 169) (by decide +kernel) (by decide +kernel)
theorem kb_155 : (Cond.laysStatic "java/lang/Throwable" "UNASSIGNED_STACK" "[Ljava/lang/StackTraceElement;") ∈ lw_tbl := List.mem_of_getElem? (i := 170) (by decide +kernel)
theorem kb_156 : (Cond.fieldLink "java/lang/Throwable" 20 "java/lang/Throwable" "SUPPRESSED_SENTINEL" "Ljava/util/List;") ∈ kb_B := kb_mem (i := 171) (by decide +kernel) (by decide +kernel)
theorem kb_157 : (Cond.laysStatic "java/lang/Throwable" "SUPPRESSED_SENTINEL" "Ljava/util/List;") ∈ lw_tbl := List.mem_of_getElem? (i := 172) (by decide +kernel)
theorem kb_158 : (Cond.methodLink "java/lang/Throwable" 27 ⟨"java/lang/Throwable", "fillInStackTrace", "()Ljava/lang/Throwable;"⟩) ∈ kb_B := kb_mem (i := 173) (by decide +kernel) (by decide +kernel)
theorem kb_159 : (Cond.instanceMethod ⟨"java/lang/Throwable", "fillInStackTrace", "()Ljava/lang/Throwable;"⟩) ∈ kb_B := kb_mem (i := 174) (by decide +kernel) (by decide +kernel)
theorem kb_160 : (Cond.sameMethod "java/lang/Throwable" "java/lang/Throwable" "fillInStackTrace" "()Ljava/lang/Throwable;") ∈ kb_B := kb_mem (i := 175) (by decide +kernel) (by decide +kernel)
theorem kb_161 : (Cond.codeSync ⟨"java/lang/Throwable", "fillInStackTrace", "()Ljava/lang/Throwable;"⟩ prog_12_method_18_code 1 (some (.object "java/lang/Throwable"))) ∈ kb_B := kb_mem (i := 176) (by decide +kernel) (by decide +kernel)
theorem kb_162 : (Cond.methodLink "java/lang/Throwable" 202 ⟨"java/lang/Throwable", "fillInStackTrace", "(I)Ljava/lang/Throwable;"⟩) ∈ kb_B := kb_mem (i := 177) (by decide +kernel) (by decide +kernel)
theorem kb_163 : (Cond.privateMethod ⟨"java/lang/Throwable", "fillInStackTrace", "(I)Ljava/lang/Throwable;"⟩) ∈ lw_tbl := List.mem_of_getElem? (i := 178) (by decide +kernel)
theorem kb_164 : (Cond.instanceMethod ⟨"java/lang/Throwable", "fillInStackTrace", "(I)Ljava/lang/Throwable;"⟩) ∈ kb_B := kb_mem (i := 179) (by decide +kernel) (by decide +kernel)
theorem kb_165 : (Cond.instantiable "java/lang/Throwable" 6) ∈ kb_B := kb_mem (i := 180) (by decide +kernel) (by decide +kernel)
theorem kb_166 : (Cond.native ⟨"java/lang/Throwable", "fillInStackTrace", "(I)Ljava/lang/Throwable;"⟩) ∈ kb_B := kb_mem (i := 181) (by decide +kernel) (by decide +kernel)
theorem kb_167 : (Cond.stringRef "GroupDesk" 141 "there is no such group") ∈ lw_tbl := List.mem_of_getElem? (i := 182) (by decide +kernel)
theorem kb_168 : (Cond.methodLink "GroupDesk" 82 ⟨"java/lang/IllegalArgumentException", "<init>", "(Ljava/lang/String;)V"⟩) ∈ kb_B := kb_mem (i := 183) (by decide +kernel) (by decide +kernel)
theorem kb_169 : (Cond.instanceMethod ⟨"java/lang/IllegalArgumentException", "<init>", "(Ljava/lang/String;)V"⟩) ∈ kb_B := kb_mem (i := 184) (by decide +kernel) (by decide +kernel)
theorem kb_170 : (Cond.code ⟨"java/lang/IllegalArgumentException", "<init>", "(Ljava/lang/String;)V"⟩ prog_7_method_2_code 2 none) ∈ kb_B := kb_mem (i := 185) (by decide +kernel) (by decide +kernel)
theorem kb_171 : (Cond.methodLink "java/lang/IllegalArgumentException" 7 ⟨"java/lang/RuntimeException", "<init>", "(Ljava/lang/String;)V"⟩) ∈ kb_B := kb_mem (i := 186) (by decide +kernel) (by decide +kernel)
theorem kb_172 : (Cond.instanceMethod ⟨"java/lang/RuntimeException", "<init>", "(Ljava/lang/String;)V"⟩) ∈ kb_B := kb_mem (i := 187) (by decide +kernel) (by decide +kernel)
theorem kb_173 : (Cond.code ⟨"java/lang/RuntimeException", "<init>", "(Ljava/lang/String;)V"⟩ prog_10_method_2_code 2 none) ∈ kb_B := kb_mem (i := 188) (by decide +kernel) (by decide +kernel)
theorem kb_174 : (Cond.methodLink "java/lang/RuntimeException" 7 ⟨"java/lang/Exception", "<init>", "(Ljava/lang/String;)V"⟩) ∈ kb_B := kb_mem (i := 189) (by decide +kernel) (by decide +kernel)
theorem kb_175 : (Cond.instanceMethod ⟨"java/lang/Exception", "<init>", "(Ljava/lang/String;)V"⟩) ∈ kb_B := kb_mem (i := 190) (by decide +kernel) (by decide +kernel)
theorem kb_176 : (Cond.code ⟨"java/lang/Exception", "<init>", "(Ljava/lang/String;)V"⟩ prog_6_method_2_code 2 none) ∈ kb_B := kb_mem (i := 191) (by decide +kernel) (by decide +kernel)
theorem kb_177 : (Cond.methodLink "java/lang/Exception" 7 ⟨"java/lang/Throwable", "<init>", "(Ljava/lang/String;)V"⟩) ∈ kb_B := kb_mem (i := 192) (by decide +kernel) (by decide +kernel)
theorem kb_178 : (Cond.instanceMethod ⟨"java/lang/Throwable", "<init>", "(Ljava/lang/String;)V"⟩) ∈ kb_B := kb_mem (i := 193) (by decide +kernel) (by decide +kernel)
theorem kb_179 : (Cond.code ⟨"java/lang/Throwable", "<init>", "(Ljava/lang/String;)V"⟩ prog_12_method_2_code 2 none) ∈ kb_B := kb_mem (i := 194) (by decide +kernel) (by decide +kernel)
theorem kb_181 : (Cond.fieldLink "java/lang/Throwable" 31 "java/lang/Throwable" "detailMessage" "Ljava/lang/String;") ∈ kb_B := kb_mem (i := 196) (by decide +kernel) (by decide +kernel)
theorem kb_182 : (Cond.fieldLink "java/lang/Throwable" 7 "java/lang/Throwable" "cause" "Ljava/lang/Throwable;") ∈ kb_B := kb_mem (i := 197) (by decide +kernel) (by decide +kernel)
theorem kb_183 : (Cond.fieldLink "java/lang/Throwable" 17 "java/lang/Throwable" "stackTrace" "[Ljava/lang/StackTraceElement;") ∈ kb_B := kb_mem (i := 198) (by decide +kernel) (by decide +kernel)
theorem kb_184 : (Cond.fieldLink "java/lang/Throwable" 24 "java/lang/Throwable" "suppressedExceptions" "Ljava/util/List;") ∈ kb_B := kb_mem (i := 199) (by decide +kernel) (by decide +kernel)
theorem kb_185 : (Cond.soleField "java/lang/Throwable" "backtrace") ∈ kb_B := kb_mem (i := 200) (by decide +kernel) (by decide +kernel)
theorem kb_186 : (Cond.soleField "java/lang/Throwable" "detailMessage") ∈ kb_B := kb_mem (i := 201) (by decide +kernel) (by decide +kernel)
theorem kb_187 : (Cond.soleField "java/lang/Throwable" "cause") ∈ kb_B := kb_mem (i := 202) (by decide +kernel) (by decide +kernel)
theorem kb_188 : (Cond.soleField "java/lang/Throwable" "stackTrace") ∈ kb_B := kb_mem (i := 203) (by decide +kernel) (by decide +kernel)
theorem kb_189 : (Cond.lays "java/lang/IllegalArgumentException" "java/lang/Throwable" "depth" "I") ∈ kb_B := kb_mem (i := 204) (by decide +kernel) (by decide +kernel)
theorem kb_190 : (Cond.soleField "java/lang/Throwable" "depth") ∈ kb_B := kb_mem (i := 205) (by decide +kernel) (by decide +kernel)
theorem kb_191 : (Cond.soleField "java/lang/Throwable" "suppressedExceptions") ∈ kb_B := kb_mem (i := 206) (by decide +kernel) (by decide +kernel)
theorem kb_192 : (Cond.superclass "java/lang/IllegalArgumentException" "java/lang/RuntimeException") ∈ kb_B := kb_mem (i := 207) (by decide +kernel) (by decide +kernel)
theorem kb_193 : (Cond.arrayClass .byte) ∈ kb_B := kb_mem (i := 208) (by decide +kernel) (by decide +kernel)
theorem kb_194 : (Cond.methodLink "GroupDesk" 40 ⟨"GroupDesk", "checkMember", "(I)V"⟩) ∈ kb_B := kb_mem (i := 209) (by decide +kernel) (by decide +kernel)
theorem kb_195 : (Cond.privateMethod ⟨"GroupDesk", "checkMember", "(I)V"⟩) ∈ lw_tbl := List.mem_of_getElem? (i := 210) (by decide +kernel)
theorem kb_196 : (Cond.instanceMethod ⟨"GroupDesk", "checkMember", "(I)V"⟩) ∈ kb_B := kb_mem (i := 211) (by decide +kernel) (by decide +kernel)
theorem kb_197 : (Cond.code ⟨"GroupDesk", "checkMember", "(I)V"⟩ prog_1_method_15_code 2 none) ∈ kb_B := kb_mem (i := 212) (by decide +kernel) (by decide +kernel)
theorem kb_198 : (Cond.stringRef "GroupDesk" 143 "there is no such member") ∈ lw_tbl := List.mem_of_getElem? (i := 213) (by decide +kernel)
theorem kb_199 : (Cond.methodLink "GroupDesk" 47 ⟨"GroupDesk$Group", "takeIn", "(II)V"⟩) ∈ kb_B := kb_mem (i := 214) (by decide +kernel) (by decide +kernel)
theorem kb_200 : (Cond.instanceMethod ⟨"GroupDesk$Group", "takeIn", "(II)V"⟩) ∈ kb_B := kb_mem (i := 215) (by decide +kernel) (by decide +kernel)
theorem kb_201 : (Cond.selects "GroupDesk$Group" ⟨"GroupDesk$Group", "takeIn", "(II)V"⟩ ⟨"GroupDesk$Group", "takeIn", "(II)V"⟩) ∈ kb_B := kb_mem (i := 216) (by decide +kernel) (by decide +kernel)
theorem kb_202 : (Cond.code ⟨"GroupDesk$Group", "takeIn", "(II)V"⟩ prog_2_method_6_code 3 none) ∈ kb_B := kb_mem (i := 217) (by decide +kernel) (by decide +kernel)
theorem kb_203 : (Cond.methodLink "GroupDesk$Group" 40 ⟨"GroupDesk$Group", "mix", "(I)V"⟩) ∈ kb_B := kb_mem (i := 218) (by decide +kernel) (by decide +kernel)
theorem kb_204 : (Cond.instanceMethod ⟨"GroupDesk$Group", "mix", "(I)V"⟩) ∈ kb_B := kb_mem (i := 219) (by decide +kernel) (by decide +kernel)
theorem kb_205 : (Cond.selects "GroupDesk$Group" ⟨"GroupDesk$Group", "mix", "(I)V"⟩ ⟨"GroupDesk$Group", "mix", "(I)V"⟩) ∈ kb_B := kb_mem (i := 220) (by decide +kernel) (by decide +kernel)
theorem kb_206 : (Cond.code ⟨"GroupDesk$Group", "mix", "(I)V"⟩ prog_2_method_5_code 2 none) ∈ kb_B := kb_mem (i := 221) (by decide +kernel) (by decide +kernel)
theorem kb_207 : (Cond.methodLink "GroupDesk" 51 ⟨"GroupDesk$Group", "finishMixing", "(ILGroupDesk$Notebook;)V"⟩) ∈ kb_B := kb_mem (i := 222) (by decide +kernel) (by decide +kernel)
theorem kb_208 : (Cond.instanceMethod ⟨"GroupDesk$Group", "finishMixing", "(ILGroupDesk$Notebook;)V"⟩) ∈ kb_B := kb_mem (i := 223) (by decide +kernel) (by decide +kernel)
theorem kb_209 : (Cond.selects "GroupDesk$Group" ⟨"GroupDesk$Group", "finishMixing", "(ILGroupDesk$Notebook;)V"⟩ ⟨"GroupDesk$Group", "finishMixing", "(ILGroupDesk$Notebook;)V"⟩) ∈ kb_B := kb_mem (i := 224) (by decide +kernel) (by decide +kernel)
theorem kb_210 : (Cond.code ⟨"GroupDesk$Group", "finishMixing", "(ILGroupDesk$Notebook;)V"⟩ prog_2_method_9_code 3 none) ∈ kb_B := kb_mem (i := 225) (by decide +kernel) (by decide +kernel)
theorem kb_211 : (Cond.methodLink "GroupDesk$Group" 44 ⟨"GroupDesk$Group", "clear", "()V"⟩) ∈ kb_B := kb_mem (i := 226) (by decide +kernel) (by decide +kernel)
theorem kb_212 : (Cond.methodLink "GroupDesk$Group" 55 ⟨"GroupDesk$Notebook", "write", "()Z"⟩) ∈ kb_B := kb_mem (i := 227) (by decide +kernel) (by decide +kernel)
theorem kb_213 : (Cond.instanceMethod ⟨"GroupDesk$Notebook", "write", "()Z"⟩) ∈ kb_B := kb_mem (i := 228) (by decide +kernel) (by decide +kernel)
theorem kb_214 : (Cond.selects "GroupDesk$Notebook" ⟨"GroupDesk$Notebook", "write", "()Z"⟩ ⟨"GroupDesk$Notebook", "write", "()Z"⟩) ∈ kb_B := kb_mem (i := 229) (by decide +kernel) (by decide +kernel)
theorem kb_215 : (Cond.code ⟨"GroupDesk$Notebook", "write", "()Z"⟩ prog_3_method_2_code 1 (some .boolean)) ∈ kb_B := kb_mem (i := 230) (by decide +kernel) (by decide +kernel)
theorem kb_216 : (Cond.methodLink "GroupDesk$Group" 61 ⟨"GroupDesk$Group", "settle", "(I)V"⟩) ∈ kb_B := kb_mem (i := 231) (by decide +kernel) (by decide +kernel)
theorem kb_217 : (Cond.instanceMethod ⟨"GroupDesk$Group", "settle", "(I)V"⟩) ∈ kb_B := kb_mem (i := 232) (by decide +kernel) (by decide +kernel)
theorem kb_218 : (Cond.selects "GroupDesk$Group" ⟨"GroupDesk$Group", "settle", "(I)V"⟩ ⟨"GroupDesk$Group", "settle", "(I)V"⟩) ∈ kb_B := kb_mem (i := 233) (by decide +kernel) (by decide +kernel)
theorem kb_219 : (Cond.code ⟨"GroupDesk$Group", "settle", "(I)V"⟩ prog_2_method_10_code 2 none) ∈ kb_B := kb_mem (i := 234) (by decide +kernel) (by decide +kernel)
theorem kb_220 : (Cond.methodLink "GroupDesk$Group" 67 ⟨"java/util/Arrays", "fill", "([II)V"⟩) ∈ kb_B := kb_mem (i := 235) (by decide +kernel) (by decide +kernel)
theorem kb_221 : (Cond.static ⟨"java/util/Arrays", "fill", "([II)V"⟩) ∈ kb_B := kb_mem (i := 236) (by decide +kernel) (by decide +kernel)
theorem kb_222 : (Cond.code ⟨"java/util/Arrays", "fill", "([II)V"⟩ prog_13_method_103_code 4 none) ∈ kb_B := kb_mem (i := 237) (by decide +kernel) (by decide +kernel)
theorem kb_223 : (Cond.methodLink "GroupDeskLaw" 63 ⟨"GroupDeskLaw", "leave", "(LGroupDesk;II[J)I"⟩) ∈ kb_B := kb_mem (i := 238) (by decide +kernel) (by decide +kernel)
theorem kb_224 : (Cond.static ⟨"GroupDeskLaw", "leave", "(LGroupDesk;II[J)I"⟩) ∈ kb_B := kb_mem (i := 239) (by decide +kernel) (by decide +kernel)
theorem kb_225 : (Cond.codeWith ⟨"GroupDeskLaw", "leave", "(LGroupDesk;II[J)I"⟩ method_4_code 5 (some .int) [(0, 10, 13, 13)]) ∈ kb_B := kb_mem (i := 240) (by decide +kernel) (by decide +kernel)
theorem kb_226 : (Cond.methodLink "GroupDeskLaw" 15 ⟨"GroupDesk", "leave", "(II)I"⟩) ∈ kb_B := kb_mem (i := 241) (by decide +kernel) (by decide +kernel)
theorem kb_227 : (Cond.instanceMethod ⟨"GroupDesk", "leave", "(II)I"⟩) ∈ kb_B := kb_mem (i := 242) (by decide +kernel) (by decide +kernel)
theorem kb_228 : (Cond.selects "GroupDesk" ⟨"GroupDesk", "leave", "(II)I"⟩ ⟨"GroupDesk", "leave", "(II)I"⟩) ∈ kb_B := kb_mem (i := 243) (by decide +kernel) (by decide +kernel)
theorem kb_229 : (Cond.code ⟨"GroupDesk", "leave", "(II)I"⟩ prog_1_method_3_code 4 (some .int)) ∈ kb_B := kb_mem (i := 244) (by decide +kernel) (by decide +kernel)
theorem kb_230 : (Cond.methodLink "GroupDesk" 61 ⟨"GroupDesk$Group", "has", "(I)Z"⟩) ∈ kb_B := kb_mem (i := 245) (by decide +kernel) (by decide +kernel)
theorem kb_231 : (Cond.instanceMethod ⟨"GroupDesk$Group", "has", "(I)Z"⟩) ∈ kb_B := kb_mem (i := 246) (by decide +kernel) (by decide +kernel)
theorem kb_232 : (Cond.selects "GroupDesk$Group" ⟨"GroupDesk$Group", "has", "(I)Z"⟩ ⟨"GroupDesk$Group", "has", "(I)Z"⟩) ∈ kb_B := kb_mem (i := 247) (by decide +kernel) (by decide +kernel)
theorem kb_233 : (Cond.code ⟨"GroupDesk$Group", "has", "(I)Z"⟩ prog_2_method_2_code 2 (some .boolean)) ∈ kb_B := kb_mem (i := 248) (by decide +kernel) (by decide +kernel)
theorem kb_234 : (Cond.methodLink "GroupDesk" 65 ⟨"GroupDesk$Group", "putOut", "(II)V"⟩) ∈ kb_B := kb_mem (i := 249) (by decide +kernel) (by decide +kernel)
theorem kb_235 : (Cond.instanceMethod ⟨"GroupDesk$Group", "putOut", "(II)V"⟩) ∈ kb_B := kb_mem (i := 250) (by decide +kernel) (by decide +kernel)
theorem kb_236 : (Cond.selects "GroupDesk$Group" ⟨"GroupDesk$Group", "putOut", "(II)V"⟩ ⟨"GroupDesk$Group", "putOut", "(II)V"⟩) ∈ kb_B := kb_mem (i := 251) (by decide +kernel) (by decide +kernel)
theorem kb_237 : (Cond.code ⟨"GroupDesk$Group", "putOut", "(II)V"⟩ prog_2_method_7_code 3 none) ∈ kb_B := kb_mem (i := 252) (by decide +kernel) (by decide +kernel)
theorem kb_238 : (Cond.methodLink "GroupDeskLaw" 66 ⟨"GroupDeskLaw", "beat", "(LGroupDesk;III[J)I"⟩) ∈ kb_B := kb_mem (i := 253) (by decide +kernel) (by decide +kernel)
theorem kb_239 : (Cond.static ⟨"GroupDeskLaw", "beat", "(LGroupDesk;III[J)I"⟩) ∈ kb_B := kb_mem (i := 254) (by decide +kernel) (by decide +kernel)
theorem kb_240 : (Cond.codeWith ⟨"GroupDeskLaw", "beat", "(LGroupDesk;III[J)I"⟩ method_5_code 6 (some .int) [(0, 12, 15, 13)]) ∈ kb_B := kb_mem (i := 255) (by decide +kernel) (by decide +kernel)
theorem kb_241 : (Cond.methodLink "GroupDeskLaw" 18 ⟨"GroupDesk", "beat", "(III)I"⟩) ∈ kb_B := kb_mem (i := 256) (by decide +kernel) (by decide +kernel)
theorem kb_242 : (Cond.instanceMethod ⟨"GroupDesk", "beat", "(III)I"⟩) ∈ kb_B := kb_mem (i := 257) (by decide +kernel) (by decide +kernel)
theorem kb_243 : (Cond.selects "GroupDesk" ⟨"GroupDesk", "beat", "(III)I"⟩ ⟨"GroupDesk", "beat", "(III)I"⟩) ∈ kb_B := kb_mem (i := 258) (by decide +kernel) (by decide +kernel)
theorem kb_244 : (Cond.code ⟨"GroupDesk", "beat", "(III)I"⟩ prog_1_method_4_code 5 (some .int)) ∈ kb_B := kb_mem (i := 259) (by decide +kernel) (by decide +kernel)
theorem kb_245 : (Cond.methodLink "GroupDesk" 72 ⟨"GroupDesk$Group", "hasJoined", "(I)Z"⟩) ∈ kb_B := kb_mem (i := 260) (by decide +kernel) (by decide +kernel)
theorem kb_246 : (Cond.instanceMethod ⟨"GroupDesk$Group", "hasJoined", "(I)Z"⟩) ∈ kb_B := kb_mem (i := 261) (by decide +kernel) (by decide +kernel)
theorem kb_247 : (Cond.selects "GroupDesk$Group" ⟨"GroupDesk$Group", "hasJoined", "(I)Z"⟩ ⟨"GroupDesk$Group", "hasJoined", "(I)Z"⟩) ∈ kb_B := kb_mem (i := 262) (by decide +kernel) (by decide +kernel)
theorem kb_248 : (Cond.code ⟨"GroupDesk$Group", "hasJoined", "(I)Z"⟩ prog_2_method_3_code 2 (some .boolean)) ∈ kb_B := kb_mem (i := 263) (by decide +kernel) (by decide +kernel)
theorem kb_249 : (Cond.methodLink "GroupDeskLaw" 72 ⟨"GroupDeskLaw", "commit", "(LGroupDesk;IIIIJ[J)I"⟩) ∈ kb_B := kb_mem (i := 264) (by decide +kernel) (by decide +kernel)
theorem kb_250 : (Cond.static ⟨"GroupDeskLaw", "commit", "(LGroupDesk;IIIIJ[J)I"⟩) ∈ kb_B := kb_mem (i := 265) (by decide +kernel) (by decide +kernel)
theorem kb_251 : (Cond.codeWith ⟨"GroupDeskLaw", "commit", "(LGroupDesk;IIIIJ[J)I"⟩ method_6_code 9 (some .int) [(0, 16, 19, 13)]) ∈ kb_B := kb_mem (i := 266) (by decide +kernel) (by decide +kernel)
theorem kb_252 : (Cond.methodLink "GroupDeskLaw" 22 ⟨"GroupDesk", "commit", "(IIIIJ)I"⟩) ∈ kb_B := kb_mem (i := 267) (by decide +kernel) (by decide +kernel)
theorem kb_253 : (Cond.instanceMethod ⟨"GroupDesk", "commit", "(IIIIJ)I"⟩) ∈ kb_B := kb_mem (i := 268) (by decide +kernel) (by decide +kernel)
theorem kb_254 : (Cond.selects "GroupDesk" ⟨"GroupDesk", "commit", "(IIIIJ)I"⟩ ⟨"GroupDesk", "commit", "(IIIIJ)I"⟩) ∈ kb_B := kb_mem (i := 269) (by decide +kernel) (by decide +kernel)
theorem kb_255 : (Cond.code ⟨"GroupDesk", "commit", "(IIIIJ)I"⟩ prog_1_method_5_code 9 (some .int)) ∈ kb_B := kb_mem (i := 270) (by decide +kernel) (by decide +kernel)
theorem kb_256 : (Cond.methodLink "GroupDesk" 75 ⟨"GroupDesk", "checkLog", "(I)V"⟩) ∈ kb_B := kb_mem (i := 271) (by decide +kernel) (by decide +kernel)
theorem kb_257 : (Cond.privateMethod ⟨"GroupDesk", "checkLog", "(I)V"⟩) ∈ lw_tbl := List.mem_of_getElem? (i := 272) (by decide +kernel)
theorem kb_258 : (Cond.instanceMethod ⟨"GroupDesk", "checkLog", "(I)V"⟩) ∈ kb_B := kb_mem (i := 273) (by decide +kernel) (by decide +kernel)
theorem kb_259 : (Cond.code ⟨"GroupDesk", "checkLog", "(I)V"⟩ prog_1_method_16_code 2 none) ∈ kb_B := kb_mem (i := 274) (by decide +kernel) (by decide +kernel)
theorem kb_260 : (Cond.stringRef "GroupDesk" 145 "there is no such log") ∈ lw_tbl := List.mem_of_getElem? (i := 275) (by decide +kernel)
theorem kb_261 : (Cond.stringRef "GroupDesk" 80 "the offset is below 0") ∈ lw_tbl := List.mem_of_getElem? (i := 276) (by decide +kernel)
theorem kb_262 : (Cond.methodLink "GroupDesk" 85 ⟨"GroupDesk$Group", "refusalOf", "(III)I"⟩) ∈ kb_B := kb_mem (i := 277) (by decide +kernel) (by decide +kernel)
theorem kb_263 : (Cond.instanceMethod ⟨"GroupDesk$Group", "refusalOf", "(III)I"⟩) ∈ kb_B := kb_mem (i := 278) (by decide +kernel) (by decide +kernel)
theorem kb_264 : (Cond.selects "GroupDesk$Group" ⟨"GroupDesk$Group", "refusalOf", "(III)I"⟩ ⟨"GroupDesk$Group", "refusalOf", "(III)I"⟩) ∈ kb_B := kb_mem (i := 279) (by decide +kernel) (by decide +kernel)
theorem kb_265 : (Cond.code ⟨"GroupDesk$Group", "refusalOf", "(III)I"⟩ prog_2_method_13_code 4 (some .int)) ∈ kb_B := kb_mem (i := 280) (by decide +kernel) (by decide +kernel)
theorem kb_266 : (Cond.methodLink "GroupDesk$Group" 47 ⟨"GroupDesk$Group", "has", "(I)Z"⟩) ∈ kb_B := kb_mem (i := 281) (by decide +kernel) (by decide +kernel)
theorem kb_267 : (Cond.methodLink "GroupDesk$Group" 82 ⟨"GroupDesk$Group", "gives", "(II)Z"⟩) ∈ kb_B := kb_mem (i := 282) (by decide +kernel) (by decide +kernel)
theorem kb_268 : (Cond.instanceMethod ⟨"GroupDesk$Group", "gives", "(II)Z"⟩) ∈ kb_B := kb_mem (i := 283) (by decide +kernel) (by decide +kernel)
theorem kb_269 : (Cond.selects "GroupDesk$Group" ⟨"GroupDesk$Group", "gives", "(II)Z"⟩ ⟨"GroupDesk$Group", "gives", "(II)Z"⟩) ∈ kb_B := kb_mem (i := 284) (by decide +kernel) (by decide +kernel)
theorem kb_270 : (Cond.code ⟨"GroupDesk$Group", "gives", "(II)Z"⟩ prog_2_method_12_code 5 (some .boolean)) ∈ kb_B := kb_mem (i := 285) (by decide +kernel) (by decide +kernel)
theorem kb_271 : (Cond.methodLink "GroupDesk$Group" 76 ⟨"java/lang/Integer", "bitCount", "(I)I"⟩) ∈ kb_B := kb_mem (i := 286) (by decide +kernel) (by decide +kernel)
theorem kb_272 : (Cond.methodLink "GroupDesk" 89 ⟨"GroupDesk$Notebook", "write", "()Z"⟩) ∈ kb_B := kb_mem (i := 287) (by decide +kernel) (by decide +kernel)
theorem kb_273 : (Cond.methodLink "GroupDeskLaw" 76 ⟨"GroupDeskLaw", "committed", "(LGroupDesk;II[J)I"⟩) ∈ kb_B := kb_mem (i := 288) (by decide +kernel) (by decide +kernel)
theorem kb_274 : (Cond.static ⟨"GroupDeskLaw", "committed", "(LGroupDesk;II[J)I"⟩) ∈ kb_B := kb_mem (i := 289) (by decide +kernel) (by decide +kernel)
theorem kb_275 : (Cond.codeWith ⟨"GroupDeskLaw", "committed", "(LGroupDesk;II[J)I"⟩ method_7_code 5 (some .int) [(0, 9, 12, 13)]) ∈ kb_B := kb_mem (i := 290) (by decide +kernel) (by decide +kernel)
theorem kb_276 : (Cond.methodLink "GroupDeskLaw" 26 ⟨"GroupDesk", "committed", "(II)J"⟩) ∈ kb_B := kb_mem (i := 291) (by decide +kernel) (by decide +kernel)
theorem kb_277 : (Cond.instanceMethod ⟨"GroupDesk", "committed", "(II)J"⟩) ∈ kb_B := kb_mem (i := 292) (by decide +kernel) (by decide +kernel)
theorem kb_278 : (Cond.selects "GroupDesk" ⟨"GroupDesk", "committed", "(II)J"⟩ ⟨"GroupDesk", "committed", "(II)J"⟩) ∈ kb_B := kb_mem (i := 293) (by decide +kernel) (by decide +kernel)
theorem kb_279 : (Cond.code ⟨"GroupDesk", "committed", "(II)J"⟩ prog_1_method_6_code 4 (some .long)) ∈ kb_B := kb_mem (i := 294) (by decide +kernel) (by decide +kernel)
theorem kb_280 : (Cond.methodLink "GroupDeskLaw" 79 ⟨"GroupDeskLaw", "group", "(LGroupDesk;II[J)I"⟩) ∈ kb_B := kb_mem (i := 295) (by decide +kernel) (by decide +kernel)
theorem kb_281 : (Cond.static ⟨"GroupDeskLaw", "group", "(LGroupDesk;II[J)I"⟩) ∈ kb_B := kb_mem (i := 296) (by decide +kernel) (by decide +kernel)
theorem kb_282 : (Cond.codeWith ⟨"GroupDeskLaw", "group", "(LGroupDesk;II[J)I"⟩ method_8_code 5 (some .int) [(0, 10, 13, 13)]) ∈ kb_B := kb_mem (i := 297) (by decide +kernel) (by decide +kernel)
theorem kb_283 : (Cond.methodLink "GroupDeskLaw" 30 ⟨"GroupDesk", "group", "(II)I"⟩) ∈ kb_B := kb_mem (i := 298) (by decide +kernel) (by decide +kernel)
theorem kb_284 : (Cond.instanceMethod ⟨"GroupDesk", "group", "(II)I"⟩) ∈ kb_B := kb_mem (i := 299) (by decide +kernel) (by decide +kernel)
theorem kb_285 : (Cond.selects "GroupDesk" ⟨"GroupDesk", "group", "(II)I"⟩ ⟨"GroupDesk", "group", "(II)I"⟩) ∈ kb_B := kb_mem (i := 300) (by decide +kernel) (by decide +kernel)
theorem kb_286 : (Cond.code ⟨"GroupDesk", "group", "(II)I"⟩ prog_1_method_7_code 4 (some .int)) ∈ kb_B := kb_mem (i := 301) (by decide +kernel) (by decide +kernel)
theorem kb_287 : (Cond.methodLink "GroupDesk" 103 ⟨"GroupDesk$Group", "ticksToLimit", "(I)I"⟩) ∈ kb_B := kb_mem (i := 302) (by decide +kernel) (by decide +kernel)
theorem kb_288 : (Cond.instanceMethod ⟨"GroupDesk$Group", "ticksToLimit", "(I)I"⟩) ∈ kb_B := kb_mem (i := 303) (by decide +kernel) (by decide +kernel)
theorem kb_289 : (Cond.selects "GroupDesk$Group" ⟨"GroupDesk$Group", "ticksToLimit", "(I)I"⟩ ⟨"GroupDesk$Group", "ticksToLimit", "(I)I"⟩) ∈ kb_B := kb_mem (i := 304) (by decide +kernel) (by decide +kernel)
theorem kb_290 : (Cond.code ⟨"GroupDesk$Group", "ticksToLimit", "(I)I"⟩ prog_2_method_11_code 2 (some .int)) ∈ kb_B := kb_mem (i := 305) (by decide +kernel) (by decide +kernel)
theorem kb_291 : (Cond.methodLink "GroupDesk$Group" 70 ⟨"java/lang/Math", "max", "(II)I"⟩) ∈ kb_B := kb_mem (i := 306) (by decide +kernel) (by decide +kernel)
theorem kb_292 : (Cond.stringRef "GroupDesk" 107 "what is not 0 .. 4") ∈ lw_tbl := List.mem_of_getElem? (i := 307) (by decide +kernel)
theorem kb_293 : (Cond.methodLink "GroupDeskLaw" 82 ⟨"GroupDeskLaw", "share", "(LGroupDesk;II[J)I"⟩) ∈ kb_B := kb_mem (i := 308) (by decide +kernel) (by decide +kernel)
theorem kb_294 : (Cond.static ⟨"GroupDeskLaw", "share", "(LGroupDesk;II[J)I"⟩) ∈ kb_B := kb_mem (i := 309) (by decide +kernel) (by decide +kernel)
theorem kb_295 : (Cond.codeWith ⟨"GroupDeskLaw", "share", "(LGroupDesk;II[J)I"⟩ method_9_code 5 (some .int) [(0, 10, 13, 13)]) ∈ kb_B := kb_mem (i := 310) (by decide +kernel) (by decide +kernel)
theorem kb_296 : (Cond.methodLink "GroupDeskLaw" 33 ⟨"GroupDesk", "share", "(II)I"⟩) ∈ kb_B := kb_mem (i := 311) (by decide +kernel) (by decide +kernel)
theorem kb_297 : (Cond.instanceMethod ⟨"GroupDesk", "share", "(II)I"⟩) ∈ kb_B := kb_mem (i := 312) (by decide +kernel) (by decide +kernel)
theorem kb_298 : (Cond.selects "GroupDesk" ⟨"GroupDesk", "share", "(II)I"⟩ ⟨"GroupDesk", "share", "(II)I"⟩) ∈ kb_B := kb_mem (i := 313) (by decide +kernel) (by decide +kernel)
theorem kb_299 : (Cond.code ⟨"GroupDesk", "share", "(II)I"⟩ prog_1_method_8_code 6 (some .int)) ∈ kb_B := kb_mem (i := 314) (by decide +kernel) (by decide +kernel)
theorem kb_300 : (Cond.methodLink "GroupDesk" 109 ⟨"GroupDesk$Group", "gives", "(II)Z"⟩) ∈ kb_B := kb_mem (i := 315) (by decide +kernel) (by decide +kernel)
theorem kb_301 : (Cond.methodLink "GroupDeskLaw" 85 ⟨"GroupDeskLaw", "room", "(LGroupDesk;I[J)I"⟩) ∈ kb_B := kb_mem (i := 316) (by decide +kernel) (by decide +kernel)
theorem kb_302 : (Cond.static ⟨"GroupDeskLaw", "room", "(LGroupDesk;I[J)I"⟩) ∈ kb_B := kb_mem (i := 317) (by decide +kernel) (by decide +kernel)
theorem kb_303 : (Cond.codeWith ⟨"GroupDeskLaw", "room", "(LGroupDesk;I[J)I"⟩ method_10_code 4 (some .int) [(0, 9, 12, 13)]) ∈ kb_B := kb_mem (i := 318) (by decide +kernel) (by decide +kernel)
theorem kb_304 : (Cond.methodLink "GroupDeskLaw" 36 ⟨"GroupDesk", "room", "(I)I"⟩) ∈ kb_B := kb_mem (i := 319) (by decide +kernel) (by decide +kernel)
theorem kb_305 : (Cond.instanceMethod ⟨"GroupDesk", "room", "(I)I"⟩) ∈ kb_B := kb_mem (i := 320) (by decide +kernel) (by decide +kernel)
theorem kb_306 : (Cond.selects "GroupDesk" ⟨"GroupDesk", "room", "(I)I"⟩ ⟨"GroupDesk", "room", "(I)I"⟩) ∈ kb_B := kb_mem (i := 321) (by decide +kernel) (by decide +kernel)
theorem kb_307 : (Cond.code ⟨"GroupDesk", "room", "(I)I"⟩ prog_1_method_9_code 3 (some .int)) ∈ kb_B := kb_mem (i := 322) (by decide +kernel) (by decide +kernel)
theorem kb_308 : (Cond.constant "GroupDesk" 113 100000) ∈ kb_B := kb_mem (i := 323) (by decide +kernel) (by decide +kernel)
theorem kb_309 : (Cond.stringRef "GroupDesk" 114 "n is not 0 .. 100000") ∈ lw_tbl := List.mem_of_getElem? (i := 324) (by decide +kernel)
theorem kb_310 : (Cond.methodLink "GroupDeskLaw" 93 ⟨"GroupDeskLaw", "ticks", "(LGroupDesk;I[J)I"⟩) ∈ kb_B := kb_mem (i := 325) (by decide +kernel) (by decide +kernel)
theorem kb_311 : (Cond.static ⟨"GroupDeskLaw", "ticks", "(LGroupDesk;I[J)I"⟩) ∈ kb_B := kb_mem (i := 326) (by decide +kernel) (by decide +kernel)
theorem kb_312 : (Cond.codeWith ⟨"GroupDeskLaw", "ticks", "(LGroupDesk;I[J)I"⟩ method_11_code 4 (some .int) [(0, 9, 12, 13)]) ∈ kb_B := kb_mem (i := 327) (by decide +kernel) (by decide +kernel)
theorem kb_313 : (Cond.methodLink "GroupDeskLaw" 40 ⟨"GroupDesk", "ticks", "(I)I"⟩) ∈ kb_B := kb_mem (i := 328) (by decide +kernel) (by decide +kernel)
theorem kb_314 : (Cond.instanceMethod ⟨"GroupDesk", "ticks", "(I)I"⟩) ∈ kb_B := kb_mem (i := 329) (by decide +kernel) (by decide +kernel)
theorem kb_315 : (Cond.selects "GroupDesk" ⟨"GroupDesk", "ticks", "(I)I"⟩ ⟨"GroupDesk", "ticks", "(I)I"⟩) ∈ kb_B := kb_mem (i := 330) (by decide +kernel) (by decide +kernel)
theorem kb_316 : (Cond.code ⟨"GroupDesk", "ticks", "(I)I"⟩ prog_1_method_11_code 3 (some .int)) ∈ kb_B := kb_mem (i := 331) (by decide +kernel) (by decide +kernel)
theorem kb_317 : (Cond.stringRef "GroupDesk" 127 "n is not 1 .. 200") ∈ lw_tbl := List.mem_of_getElem? (i := 332) (by decide +kernel)
theorem kb_318 : (Cond.constant "GroupDesk" 129 1000000) ∈ kb_B := kb_mem (i := 333) (by decide +kernel) (by decide +kernel)
theorem kb_319 : (Cond.stringRef "GroupDesk" 130 "TIME would be above 1000000") ∈ lw_tbl := List.mem_of_getElem? (i := 334) (by decide +kernel)
theorem kb_320 : (Cond.methodLink "GroupDesk" 132 ⟨"GroupDesk", "tick", "()V"⟩) ∈ kb_B := kb_mem (i := 335) (by decide +kernel) (by decide +kernel)
theorem kb_321 : (Cond.privateMethod ⟨"GroupDesk", "tick", "()V"⟩) ∈ lw_tbl := List.mem_of_getElem? (i := 336) (by decide +kernel)
theorem kb_322 : (Cond.instanceMethod ⟨"GroupDesk", "tick", "()V"⟩) ∈ kb_B := kb_mem (i := 337) (by decide +kernel) (by decide +kernel)
theorem kb_323 : (Cond.code ⟨"GroupDesk", "tick", "()V"⟩ prog_1_method_13_code 2 none) ∈ kb_B := kb_mem (i := 338) (by decide +kernel) (by decide +kernel)
theorem kb_324 : (Cond.methodLink "GroupDesk" 138 ⟨"GroupDesk$Group", "dropSilent", "(I)V"⟩) ∈ kb_B := kb_mem (i := 339) (by decide +kernel) (by decide +kernel)
theorem kb_325 : (Cond.instanceMethod ⟨"GroupDesk$Group", "dropSilent", "(I)V"⟩) ∈ kb_B := kb_mem (i := 340) (by decide +kernel) (by decide +kernel)
theorem kb_326 : (Cond.selects "GroupDesk$Group" ⟨"GroupDesk$Group", "dropSilent", "(I)V"⟩ ⟨"GroupDesk$Group", "dropSilent", "(I)V"⟩) ∈ kb_B := kb_mem (i := 341) (by decide +kernel) (by decide +kernel)
theorem kb_327 : (Cond.code ⟨"GroupDesk$Group", "dropSilent", "(I)V"⟩ prog_2_method_8_code 4 none) ∈ kb_B := kb_mem (i := 342) (by decide +kernel) (by decide +kernel)
theorem kb_328 : (Cond.methodLink "GroupDesk$Group" 51 ⟨"GroupDesk$Group", "putOut", "(II)V"⟩) ∈ kb_B := kb_mem (i := 343) (by decide +kernel) (by decide +kernel)
theorem kb_329 : (Cond.classLink "GroupDeskLaw" 52 "GroupDeskModel") ∈ kb_B := kb_mem (i := 344) (by decide +kernel) (by decide +kernel)
theorem kb_330 : (Cond.instantiable "GroupDeskModel" 12) ∈ kb_B := kb_mem (i := 345) (by decide +kernel) (by decide +kernel)
theorem kb_331 : (Cond.methodLink "GroupDeskLaw" 54 ⟨"GroupDeskModel", "<init>", "(I)V"⟩) ∈ kb_B := kb_mem (i := 346) (by decide +kernel) (by decide +kernel)
theorem kb_332 : (Cond.instanceMethod ⟨"GroupDeskModel", "<init>", "(I)V"⟩) ∈ kb_B := kb_mem (i := 347) (by decide +kernel) (by decide +kernel)
theorem kb_333 : (Cond.code ⟨"GroupDeskModel", "<init>", "(I)V"⟩ prog_5_method_1_code 4 none) ∈ kb_B := kb_mem (i := 348) (by decide +kernel) (by decide +kernel)
theorem kb_334 : (Cond.methodLink "GroupDeskModel" 1 ⟨"java/lang/Object", "<init>", "()V"⟩) ∈ kb_B := kb_mem (i := 349) (by decide +kernel) (by decide +kernel)
theorem kb_335 : (Cond.constantLong "GroupDeskModel" 40 (-1)) ∈ kb_B := kb_mem (i := 350) (by decide +kernel) (by decide +kernel)
theorem kb_336 : (Cond.fieldLink "GroupDeskModel" 42 "GroupDeskModel" "code" "I") ∈ kb_B := kb_mem (i := 351) (by decide +kernel) (by decide +kernel)
theorem kb_337 : (Cond.fieldLink "GroupDeskModel" 37 "GroupDeskModel" "logs" "I") ∈ kb_B := kb_mem (i := 352) (by decide +kernel) (by decide +kernel)
theorem kb_338 : (Cond.fieldLink "GroupDeskModel" 48 "GroupDeskModel" "time" "I") ∈ kb_B := kb_mem (i := 353) (by decide +kernel) (by decide +kernel)
theorem kb_339 : (Cond.fieldLink "GroupDeskModel" 7 "GroupDeskModel" "room" "I") ∈ kb_B := kb_mem (i := 354) (by decide +kernel) (by decide +kernel)
theorem kb_340 : (Cond.fieldLink "GroupDeskModel" 45 "GroupDeskModel" "notes" "I") ∈ kb_B := kb_mem (i := 355) (by decide +kernel) (by decide +kernel)
theorem kb_341 : (Cond.fieldLink "GroupDeskModel" 13 "GroupDeskModel" "state" "[I") ∈ kb_B := kb_mem (i := 356) (by decide +kernel) (by decide +kernel)
theorem kb_342 : (Cond.fieldLink "GroupDeskModel" 17 "GroupDeskModel" "generation" "[I") ∈ kb_B := kb_mem (i := 357) (by decide +kernel) (by decide +kernel)
theorem kb_343 : (Cond.fieldLink "GroupDeskModel" 20 "GroupDeskModel" "limit" "[I") ∈ kb_B := kb_mem (i := 358) (by decide +kernel) (by decide +kernel)
theorem kb_344 : (Cond.fieldLink "GroupDeskModel" 23 "GroupDeskModel" "member" "[Z") ∈ kb_B := kb_mem (i := 359) (by decide +kernel) (by decide +kernel)
theorem kb_345 : (Cond.fieldLink "GroupDeskModel" 27 "GroupDeskModel" "joined" "[Z") ∈ kb_B := kb_mem (i := 360) (by decide +kernel) (by decide +kernel)
theorem kb_346 : (Cond.fieldLink "GroupDeskModel" 30 "GroupDeskModel" "heard" "[I") ∈ kb_B := kb_mem (i := 361) (by decide +kernel) (by decide +kernel)
theorem kb_347 : (Cond.fieldLink "GroupDeskModel" 33 "GroupDeskModel" "offset" "[J") ∈ kb_B := kb_mem (i := 362) (by decide +kernel) (by decide +kernel)
theorem kb_348 : (Cond.lays "GroupDeskModel" "GroupDeskModel" "code" "I") ∈ kb_B := kb_mem (i := 363) (by decide +kernel) (by decide +kernel)
theorem kb_349 : (Cond.soleField "GroupDeskModel" "code") ∈ kb_B := kb_mem (i := 364) (by decide +kernel) (by decide +kernel)
theorem kb_350 : (Cond.laysFinal "GroupDeskModel" "GroupDeskModel" "logs" "I") ∈ kb_B := kb_mem (i := 365) (by decide +kernel) (by decide +kernel)
theorem kb_351 : (Cond.soleField "GroupDeskModel" "logs") ∈ kb_B := kb_mem (i := 366) (by decide +kernel) (by decide +kernel)
theorem kb_352 : (Cond.lays "GroupDeskModel" "GroupDeskModel" "time" "I") ∈ kb_B := kb_mem (i := 367) (by decide +kernel) (by decide +kernel)
theorem kb_353 : (Cond.soleField "GroupDeskModel" "time") ∈ kb_B := kb_mem (i := 368) (by decide +kernel) (by decide +kernel)
theorem kb_354 : (Cond.lays "GroupDeskModel" "GroupDeskModel" "room" "I") ∈ kb_B := kb_mem (i := 369) (by decide +kernel) (by decide +kernel)
theorem kb_355 : (Cond.soleField "GroupDeskModel" "room") ∈ kb_B := kb_mem (i := 370) (by decide +kernel) (by decide +kernel)
theorem kb_356 : (Cond.lays "GroupDeskModel" "GroupDeskModel" "notes" "I") ∈ kb_B := kb_mem (i := 371) (by decide +kernel) (by decide +kernel)
theorem kb_357 : (Cond.soleField "GroupDeskModel" "notes") ∈ kb_B := kb_mem (i := 372) (by decide +kernel) (by decide +kernel)
theorem kb_358 : (Cond.laysFinal "GroupDeskModel" "GroupDeskModel" "state" "[I") ∈ kb_B := kb_mem (i := 373) (by decide +kernel) (by decide +kernel)
theorem kb_359 : (Cond.soleField "GroupDeskModel" "state") ∈ kb_B := kb_mem (i := 374) (by decide +kernel) (by decide +kernel)
theorem kb_360 : (Cond.laysFinal "GroupDeskModel" "GroupDeskModel" "generation" "[I") ∈ kb_B := kb_mem (i := 375) (by decide +kernel) (by decide +kernel)
theorem kb_361 : (Cond.soleField "GroupDeskModel" "generation") ∈ kb_B := kb_mem (i := 376) (by decide +kernel) (by decide +kernel)
theorem kb_362 : (Cond.laysFinal "GroupDeskModel" "GroupDeskModel" "limit" "[I") ∈ kb_B := kb_mem (i := 377) (by decide +kernel) (by decide +kernel)
theorem kb_363 : (Cond.soleField "GroupDeskModel" "limit") ∈ kb_B := kb_mem (i := 378) (by decide +kernel) (by decide +kernel)
theorem kb_364 : (Cond.laysFinal "GroupDeskModel" "GroupDeskModel" "member" "[Z") ∈ kb_B := kb_mem (i := 379) (by decide +kernel) (by decide +kernel)
theorem kb_365 : (Cond.soleField "GroupDeskModel" "member") ∈ kb_B := kb_mem (i := 380) (by decide +kernel) (by decide +kernel)
theorem kb_366 : (Cond.laysFinal "GroupDeskModel" "GroupDeskModel" "joined" "[Z") ∈ kb_B := kb_mem (i := 381) (by decide +kernel) (by decide +kernel)
theorem kb_367 : (Cond.soleField "GroupDeskModel" "joined") ∈ kb_B := kb_mem (i := 382) (by decide +kernel) (by decide +kernel)
theorem kb_368 : (Cond.laysFinal "GroupDeskModel" "GroupDeskModel" "heard" "[I") ∈ kb_B := kb_mem (i := 383) (by decide +kernel) (by decide +kernel)
theorem kb_369 : (Cond.soleField "GroupDeskModel" "heard") ∈ kb_B := kb_mem (i := 384) (by decide +kernel) (by decide +kernel)
theorem kb_370 : (Cond.laysFinal "GroupDeskModel" "GroupDeskModel" "offset" "[J") ∈ kb_B := kb_mem (i := 385) (by decide +kernel) (by decide +kernel)
theorem kb_371 : (Cond.soleField "GroupDeskModel" "offset") ∈ kb_B := kb_mem (i := 386) (by decide +kernel) (by decide +kernel)
theorem kb_372 : (Cond.superclass "GroupDeskModel" "java/lang/Object") ∈ kb_B := kb_mem (i := 387) (by decide +kernel) (by decide +kernel)
theorem kb_373 : (Cond.arrayClass .boolean) ∈ kb_B := kb_mem (i := 388) (by decide +kernel) (by decide +kernel)
theorem kb_374 : (Cond.methodLink "GroupDeskLaw" 59 ⟨"GroupDeskModel", "thrown", "()I"⟩) ∈ kb_B := kb_mem (i := 389) (by decide +kernel) (by decide +kernel)
theorem kb_375 : (Cond.instanceMethod ⟨"GroupDeskModel", "thrown", "()I"⟩) ∈ kb_B := kb_mem (i := 390) (by decide +kernel) (by decide +kernel)
theorem kb_376 : (Cond.selects "GroupDeskModel" ⟨"GroupDeskModel", "thrown", "()I"⟩ ⟨"GroupDeskModel", "thrown", "()I"⟩) ∈ kb_B := kb_mem (i := 391) (by decide +kernel) (by decide +kernel)
theorem kb_377 : (Cond.code ⟨"GroupDeskModel", "thrown", "()I"⟩ prog_5_method_2_code 1 (some .int)) ∈ kb_B := kb_mem (i := 392) (by decide +kernel) (by decide +kernel)
theorem kb_378 : (Cond.methodLink "GroupDeskLaw" 58 ⟨"GroupDeskModel", "join", "(II)I"⟩) ∈ kb_B := kb_mem (i := 393) (by decide +kernel) (by decide +kernel)
theorem kb_379 : (Cond.instanceMethod ⟨"GroupDeskModel", "join", "(II)I"⟩) ∈ kb_B := kb_mem (i := 394) (by decide +kernel) (by decide +kernel)
theorem kb_380 : (Cond.selects "GroupDeskModel" ⟨"GroupDeskModel", "join", "(II)I"⟩ ⟨"GroupDeskModel", "join", "(II)I"⟩) ∈ kb_B := kb_mem (i := 395) (by decide +kernel) (by decide +kernel)
theorem kb_381 : (Cond.code ⟨"GroupDeskModel", "join", "(II)I"⟩ prog_5_method_12_code 3 (some .int)) ∈ kb_B := kb_mem (i := 396) (by decide +kernel) (by decide +kernel)
theorem kb_382 : (Cond.methodLink "GroupDeskModel" 69 ⟨"GroupDeskModel", "isOne", "(I)Z"⟩) ∈ kb_B := kb_mem (i := 397) (by decide +kernel) (by decide +kernel)
theorem kb_383 : (Cond.static ⟨"GroupDeskModel", "isOne", "(I)Z"⟩) ∈ kb_B := kb_mem (i := 398) (by decide +kernel) (by decide +kernel)
theorem kb_384 : (Cond.code ⟨"GroupDeskModel", "isOne", "(I)Z"⟩ prog_5_method_4_code 1 (some .boolean)) ∈ kb_B := kb_mem (i := 399) (by decide +kernel) (by decide +kernel)
theorem kb_385 : (Cond.methodLink "GroupDeskModel" 73 ⟨"GroupDeskModel", "goes", "(Z)Z"⟩) ∈ kb_B := kb_mem (i := 400) (by decide +kernel) (by decide +kernel)
theorem kb_386 : (Cond.privateMethod ⟨"GroupDeskModel", "goes", "(Z)Z"⟩) ∈ lw_tbl := List.mem_of_getElem? (i := 401) (by decide +kernel)
theorem kb_387 : (Cond.instanceMethod ⟨"GroupDeskModel", "goes", "(Z)Z"⟩) ∈ kb_B := kb_mem (i := 402) (by decide +kernel) (by decide +kernel)
theorem kb_388 : (Cond.code ⟨"GroupDeskModel", "goes", "(Z)Z"⟩ prog_5_method_3_code 2 (some .boolean)) ∈ kb_B := kb_mem (i := 403) (by decide +kernel) (by decide +kernel)
theorem kb_389 : (Cond.methodLink "GroupDeskModel" 66 ⟨"GroupDeskModel", "mixes", "(I)V"⟩) ∈ kb_B := kb_mem (i := 404) (by decide +kernel) (by decide +kernel)
theorem kb_390 : (Cond.privateMethod ⟨"GroupDeskModel", "mixes", "(I)V"⟩) ∈ lw_tbl := List.mem_of_getElem? (i := 405) (by decide +kernel)
theorem kb_391 : (Cond.instanceMethod ⟨"GroupDeskModel", "mixes", "(I)V"⟩) ∈ kb_B := kb_mem (i := 406) (by decide +kernel) (by decide +kernel)
theorem kb_392 : (Cond.code ⟨"GroupDeskModel", "mixes", "(I)V"⟩ prog_5_method_8_code 3 none) ∈ kb_B := kb_mem (i := 407) (by decide +kernel) (by decide +kernel)
theorem kb_393 : (Cond.methodLink "GroupDeskModel" 77 ⟨"GroupDeskModel", "mayBeDone", "(I)V"⟩) ∈ kb_B := kb_mem (i := 408) (by decide +kernel) (by decide +kernel)
theorem kb_394 : (Cond.privateMethod ⟨"GroupDeskModel", "mayBeDone", "(I)V"⟩) ∈ lw_tbl := List.mem_of_getElem? (i := 409) (by decide +kernel)
theorem kb_395 : (Cond.instanceMethod ⟨"GroupDeskModel", "mayBeDone", "(I)V"⟩) ∈ kb_B := kb_mem (i := 410) (by decide +kernel) (by decide +kernel)
theorem kb_396 : (Cond.code ⟨"GroupDeskModel", "mayBeDone", "(I)V"⟩ prog_5_method_9_code 5 none) ∈ kb_B := kb_mem (i := 411) (by decide +kernel) (by decide +kernel)
theorem kb_397 : (Cond.methodLink "GroupDeskModel" 51 ⟨"GroupDeskModel", "count", "(I)I"⟩) ∈ kb_B := kb_mem (i := 412) (by decide +kernel) (by decide +kernel)
theorem kb_398 : (Cond.privateMethod ⟨"GroupDeskModel", "count", "(I)I"⟩) ∈ lw_tbl := List.mem_of_getElem? (i := 413) (by decide +kernel)
theorem kb_399 : (Cond.instanceMethod ⟨"GroupDeskModel", "count", "(I)I"⟩) ∈ kb_B := kb_mem (i := 414) (by decide +kernel) (by decide +kernel)
theorem kb_400 : (Cond.code ⟨"GroupDeskModel", "count", "(I)I"⟩ prog_5_method_5_code 4 (some .int)) ∈ kb_B := kb_mem (i := 415) (by decide +kernel) (by decide +kernel)
theorem kb_401 : (Cond.methodLink "GroupDeskModel" 55 ⟨"GroupDeskModel", "joinedOf", "(I)I"⟩) ∈ kb_B := kb_mem (i := 416) (by decide +kernel) (by decide +kernel)
theorem kb_402 : (Cond.privateMethod ⟨"GroupDeskModel", "joinedOf", "(I)I"⟩) ∈ lw_tbl := List.mem_of_getElem? (i := 417) (by decide +kernel)
theorem kb_403 : (Cond.instanceMethod ⟨"GroupDeskModel", "joinedOf", "(I)I"⟩) ∈ kb_B := kb_mem (i := 418) (by decide +kernel) (by decide +kernel)
theorem kb_404 : (Cond.code ⟨"GroupDeskModel", "joinedOf", "(I)I"⟩ prog_5_method_6_code 4 (some .int)) ∈ kb_B := kb_mem (i := 419) (by decide +kernel) (by decide +kernel)
theorem kb_405 : (Cond.methodLink "GroupDeskModel" 58 ⟨"GroupDeskModel", "empties", "(I)V"⟩) ∈ kb_B := kb_mem (i := 420) (by decide +kernel) (by decide +kernel)
theorem kb_406 : (Cond.privateMethod ⟨"GroupDeskModel", "empties", "(I)V"⟩) ∈ lw_tbl := List.mem_of_getElem? (i := 421) (by decide +kernel)
theorem kb_407 : (Cond.instanceMethod ⟨"GroupDeskModel", "empties", "(I)V"⟩) ∈ kb_B := kb_mem (i := 422) (by decide +kernel) (by decide +kernel)
theorem kb_408 : (Cond.code ⟨"GroupDeskModel", "empties", "(I)V"⟩ prog_5_method_10_code 3 none) ∈ kb_B := kb_mem (i := 423) (by decide +kernel) (by decide +kernel)
theorem kb_409 : (Cond.methodLink "GroupDeskModel" 62 ⟨"GroupDeskModel", "takesNote", "()Z"⟩) ∈ kb_B := kb_mem (i := 424) (by decide +kernel) (by decide +kernel)
theorem kb_410 : (Cond.privateMethod ⟨"GroupDeskModel", "takesNote", "()Z"⟩) ∈ lw_tbl := List.mem_of_getElem? (i := 425) (by decide +kernel)
theorem kb_411 : (Cond.instanceMethod ⟨"GroupDeskModel", "takesNote", "()Z"⟩) ∈ kb_B := kb_mem (i := 426) (by decide +kernel) (by decide +kernel)
theorem kb_412 : (Cond.code ⟨"GroupDeskModel", "takesNote", "()Z"⟩ prog_5_method_7_code 1 (some .boolean)) ∈ kb_B := kb_mem (i := 427) (by decide +kernel) (by decide +kernel)
theorem kb_413 : (Cond.methodLink "GroupDeskLaw" 65 ⟨"GroupDeskModel", "leave", "(II)I"⟩) ∈ kb_B := kb_mem (i := 428) (by decide +kernel) (by decide +kernel)
theorem kb_414 : (Cond.instanceMethod ⟨"GroupDeskModel", "leave", "(II)I"⟩) ∈ kb_B := kb_mem (i := 429) (by decide +kernel) (by decide +kernel)
theorem kb_415 : (Cond.selects "GroupDeskModel" ⟨"GroupDeskModel", "leave", "(II)I"⟩ ⟨"GroupDeskModel", "leave", "(II)I"⟩) ∈ kb_B := kb_mem (i := 430) (by decide +kernel) (by decide +kernel)
theorem kb_416 : (Cond.code ⟨"GroupDeskModel", "leave", "(II)I"⟩ prog_5_method_13_code 3 (some .int)) ∈ kb_B := kb_mem (i := 431) (by decide +kernel) (by decide +kernel)
theorem kb_417 : (Cond.methodLink "GroupDeskModel" 80 ⟨"GroupDeskModel", "without", "(I)V"⟩) ∈ kb_B := kb_mem (i := 432) (by decide +kernel) (by decide +kernel)
theorem kb_418 : (Cond.privateMethod ⟨"GroupDeskModel", "without", "(I)V"⟩) ∈ lw_tbl := List.mem_of_getElem? (i := 433) (by decide +kernel)
theorem kb_419 : (Cond.instanceMethod ⟨"GroupDeskModel", "without", "(I)V"⟩) ∈ kb_B := kb_mem (i := 434) (by decide +kernel) (by decide +kernel)
theorem kb_420 : (Cond.code ⟨"GroupDeskModel", "without", "(I)V"⟩ prog_5_method_11_code 2 none) ∈ kb_B := kb_mem (i := 435) (by decide +kernel) (by decide +kernel)
theorem kb_421 : (Cond.methodLink "GroupDeskLaw" 69 ⟨"GroupDeskModel", "beat", "(III)I"⟩) ∈ kb_B := kb_mem (i := 436) (by decide +kernel) (by decide +kernel)
theorem kb_422 : (Cond.instanceMethod ⟨"GroupDeskModel", "beat", "(III)I"⟩) ∈ kb_B := kb_mem (i := 437) (by decide +kernel) (by decide +kernel)
theorem kb_423 : (Cond.selects "GroupDeskModel" ⟨"GroupDeskModel", "beat", "(III)I"⟩ ⟨"GroupDeskModel", "beat", "(III)I"⟩) ∈ kb_B := kb_mem (i := 438) (by decide +kernel) (by decide +kernel)
theorem kb_424 : (Cond.code ⟨"GroupDeskModel", "beat", "(III)I"⟩ prog_5_method_14_code 4 (some .int)) ∈ kb_B := kb_mem (i := 439) (by decide +kernel) (by decide +kernel)
theorem kb_425 : (Cond.methodLink "GroupDeskLaw" 75 ⟨"GroupDeskModel", "commit", "(IIIIJ)I"⟩) ∈ kb_B := kb_mem (i := 440) (by decide +kernel) (by decide +kernel)
theorem kb_426 : (Cond.instanceMethod ⟨"GroupDeskModel", "commit", "(IIIIJ)I"⟩) ∈ kb_B := kb_mem (i := 441) (by decide +kernel) (by decide +kernel)
theorem kb_427 : (Cond.selects "GroupDeskModel" ⟨"GroupDeskModel", "commit", "(IIIIJ)I"⟩ ⟨"GroupDeskModel", "commit", "(IIIIJ)I"⟩) ∈ kb_B := kb_mem (i := 442) (by decide +kernel) (by decide +kernel)
theorem kb_428 : (Cond.code ⟨"GroupDeskModel", "commit", "(IIIIJ)I"⟩ prog_5_method_16_code 7 (some .int)) ∈ kb_B := kb_mem (i := 443) (by decide +kernel) (by decide +kernel)
theorem kb_429 : (Cond.methodLink "GroupDeskModel" 83 ⟨"GroupDeskModel", "owner", "(II)I"⟩) ∈ kb_B := kb_mem (i := 444) (by decide +kernel) (by decide +kernel)
theorem kb_430 : (Cond.privateMethod ⟨"GroupDeskModel", "owner", "(II)I"⟩) ∈ lw_tbl := List.mem_of_getElem? (i := 445) (by decide +kernel)
theorem kb_431 : (Cond.instanceMethod ⟨"GroupDeskModel", "owner", "(II)I"⟩) ∈ kb_B := kb_mem (i := 446) (by decide +kernel) (by decide +kernel)
theorem kb_432 : (Cond.code ⟨"GroupDeskModel", "owner", "(II)I"⟩ prog_5_method_15_code 5 (some .int)) ∈ kb_B := kb_mem (i := 447) (by decide +kernel) (by decide +kernel)
theorem kb_433 : (Cond.methodLink "GroupDeskLaw" 78 ⟨"GroupDeskModel", "committed", "(II)J"⟩) ∈ kb_B := kb_mem (i := 448) (by decide +kernel) (by decide +kernel)
theorem kb_434 : (Cond.instanceMethod ⟨"GroupDeskModel", "committed", "(II)J"⟩) ∈ kb_B := kb_mem (i := 449) (by decide +kernel) (by decide +kernel)
theorem kb_435 : (Cond.selects "GroupDeskModel" ⟨"GroupDeskModel", "committed", "(II)J"⟩ ⟨"GroupDeskModel", "committed", "(II)J"⟩) ∈ kb_B := kb_mem (i := 450) (by decide +kernel) (by decide +kernel)
theorem kb_436 : (Cond.code ⟨"GroupDeskModel", "committed", "(II)J"⟩ prog_5_method_17_code 3 (some .long)) ∈ kb_B := kb_mem (i := 451) (by decide +kernel) (by decide +kernel)
theorem kb_437 : (Cond.methodLink "GroupDeskLaw" 81 ⟨"GroupDeskModel", "group", "(II)I"⟩) ∈ kb_B := kb_mem (i := 452) (by decide +kernel) (by decide +kernel)
theorem kb_438 : (Cond.instanceMethod ⟨"GroupDeskModel", "group", "(II)I"⟩) ∈ kb_B := kb_mem (i := 453) (by decide +kernel) (by decide +kernel)
theorem kb_439 : (Cond.selects "GroupDeskModel" ⟨"GroupDeskModel", "group", "(II)I"⟩ ⟨"GroupDeskModel", "group", "(II)I"⟩) ∈ kb_B := kb_mem (i := 454) (by decide +kernel) (by decide +kernel)
theorem kb_440 : (Cond.code ⟨"GroupDeskModel", "group", "(II)I"⟩ prog_5_method_18_code 6 (some .int)) ∈ kb_B := kb_mem (i := 455) (by decide +kernel) (by decide +kernel)
theorem kb_441 : (Cond.methodLink "GroupDeskLaw" 84 ⟨"GroupDeskModel", "share", "(II)I"⟩) ∈ kb_B := kb_mem (i := 456) (by decide +kernel) (by decide +kernel)
theorem kb_442 : (Cond.instanceMethod ⟨"GroupDeskModel", "share", "(II)I"⟩) ∈ kb_B := kb_mem (i := 457) (by decide +kernel) (by decide +kernel)
theorem kb_443 : (Cond.selects "GroupDeskModel" ⟨"GroupDeskModel", "share", "(II)I"⟩ ⟨"GroupDeskModel", "share", "(II)I"⟩) ∈ kb_B := kb_mem (i := 458) (by decide +kernel) (by decide +kernel)
theorem kb_444 : (Cond.code ⟨"GroupDeskModel", "share", "(II)I"⟩ prog_5_method_19_code 5 (some .int)) ∈ kb_B := kb_mem (i := 459) (by decide +kernel) (by decide +kernel)
theorem kb_445 : (Cond.methodLink "GroupDeskLaw" 88 ⟨"GroupDeskModel", "room", "(I)I"⟩) ∈ kb_B := kb_mem (i := 460) (by decide +kernel) (by decide +kernel)
theorem kb_446 : (Cond.instanceMethod ⟨"GroupDeskModel", "room", "(I)I"⟩) ∈ kb_B := kb_mem (i := 461) (by decide +kernel) (by decide +kernel)
theorem kb_447 : (Cond.selects "GroupDeskModel" ⟨"GroupDeskModel", "room", "(I)I"⟩ ⟨"GroupDeskModel", "room", "(I)I"⟩) ∈ kb_B := kb_mem (i := 462) (by decide +kernel) (by decide +kernel)
theorem kb_448 : (Cond.code ⟨"GroupDeskModel", "room", "(I)I"⟩ prog_5_method_20_code 3 (some .int)) ∈ kb_B := kb_mem (i := 463) (by decide +kernel) (by decide +kernel)
theorem kb_449 : (Cond.constant "GroupDeskModel" 87 100000) ∈ kb_B := kb_mem (i := 464) (by decide +kernel) (by decide +kernel)
theorem kb_450 : (Cond.methodLink "GroupDeskLaw" 92 ⟨"GroupDeskModel", "restart", "()I"⟩) ∈ kb_B := kb_mem (i := 465) (by decide +kernel) (by decide +kernel)
theorem kb_451 : (Cond.instanceMethod ⟨"GroupDeskModel", "restart", "()I"⟩) ∈ kb_B := kb_mem (i := 466) (by decide +kernel) (by decide +kernel)
theorem kb_452 : (Cond.selects "GroupDeskModel" ⟨"GroupDeskModel", "restart", "()I"⟩ ⟨"GroupDeskModel", "restart", "()I"⟩) ∈ kb_B := kb_mem (i := 467) (by decide +kernel) (by decide +kernel)
theorem kb_453 : (Cond.code ⟨"GroupDeskModel", "restart", "()I"⟩ prog_5_method_21_code 3 (some .int)) ∈ kb_B := kb_mem (i := 468) (by decide +kernel) (by decide +kernel)
theorem kb_454 : (Cond.methodLink "GroupDeskLaw" 95 ⟨"GroupDeskModel", "ticks", "(I)I"⟩) ∈ kb_B := kb_mem (i := 469) (by decide +kernel) (by decide +kernel)
theorem kb_455 : (Cond.instanceMethod ⟨"GroupDeskModel", "ticks", "(I)I"⟩) ∈ kb_B := kb_mem (i := 470) (by decide +kernel) (by decide +kernel)
theorem kb_456 : (Cond.selects "GroupDeskModel" ⟨"GroupDeskModel", "ticks", "(I)I"⟩ ⟨"GroupDeskModel", "ticks", "(I)I"⟩) ∈ kb_B := kb_mem (i := 471) (by decide +kernel) (by decide +kernel)
theorem kb_457 : (Cond.code ⟨"GroupDeskModel", "ticks", "(I)I"⟩ prog_5_method_23_code 4 (some .int)) ∈ kb_B := kb_mem (i := 472) (by decide +kernel) (by decide +kernel)
theorem kb_458 : (Cond.constant "GroupDeskModel" 88 1000000) ∈ kb_B := kb_mem (i := 473) (by decide +kernel) (by decide +kernel)
theorem kb_459 : (Cond.methodLink "GroupDeskModel" 89 ⟨"GroupDeskModel", "tick", "(I)V"⟩) ∈ kb_B := kb_mem (i := 474) (by decide +kernel) (by decide +kernel)
theorem kb_460 : (Cond.privateMethod ⟨"GroupDeskModel", "tick", "(I)V"⟩) ∈ lw_tbl := List.mem_of_getElem? (i := 475) (by decide +kernel)
theorem kb_461 : (Cond.instanceMethod ⟨"GroupDeskModel", "tick", "(I)V"⟩) ∈ kb_B := kb_mem (i := 476) (by decide +kernel) (by decide +kernel)
theorem kb_462 : (Cond.code ⟨"GroupDeskModel", "tick", "(I)V"⟩ prog_5_method_22_code 4 none) ∈ kb_B := kb_mem (i := 477) (by decide +kernel) (by decide +kernel)
theorem kb_463 : (Cond.methodLink "GroupDeskLaw" 99 ⟨"GroupDeskModel", "notes", "()I"⟩) ∈ kb_B := kb_mem (i := 478) (by decide +kernel) (by decide +kernel)
theorem kb_464 : (Cond.instanceMethod ⟨"GroupDeskModel", "notes", "()I"⟩) ∈ kb_B := kb_mem (i := 479) (by decide +kernel) (by decide +kernel)
theorem kb_465 : (Cond.selects "GroupDeskModel" ⟨"GroupDeskModel", "notes", "()I"⟩ ⟨"GroupDeskModel", "notes", "()I"⟩) ∈ kb_B := kb_mem (i := 480) (by decide +kernel) (by decide +kernel)
theorem kb_466 : (Cond.code ⟨"GroupDeskModel", "notes", "()I"⟩ prog_5_method_24_code 1 (some .int)) ∈ kb_B := kb_mem (i := 481) (by decide +kernel) (by decide +kernel)
theorem kb_467 : (Cond.constantLong "GroupDeskLaw" 70 4294967295) ∈ kb_B := kb_mem (i := 482) (by decide +kernel) (by decide +kernel)
theorem kb_468 : (Cond.sameMethod "java/lang/Throwable" "java/lang/Throwable" "fillInStackTrace" "(I)Ljava/lang/Throwable;") ∈ kb_B := kb_mem (i := 483) (by decide +kernel) (by decide +kernel)
end
section
/-! classes, their fields, methods: names -/
abbrev R_D : String := "GroupDesk"
abbrev R_N : String := "GroupDesk$Notebook"
abbrev R_G : String := "GroupDesk$Group"
abbrev R_M : String := "GroupDeskModel"
abbrev R_L : String := "GroupDeskLaw"
abbrev R_JI : String := "java/lang/Integer"
abbrev R_JA : String := "java/util/Arrays"
def F_D : u_T := fun k => match k with
  | 0 => ("GroupDesk", "logs", "I", true)
  | 1 => ("GroupDesk", "groups", "[LGroupDesk$Group;", true)
  | 2 => ("GroupDesk", "notebook", "LGroupDesk$Notebook;", true)
  | _ => ("GroupDesk", "time", "I", false)
def t_D : Nat → FieldType := fun k => match k with
  | 0 => .int
  | 1 => .array (.object "GroupDesk$Group")
  | 2 => .object "GroupDesk$Notebook"
  | _ => .int
theorem n_D : ∀ a, a < 4 → ∀ b, b < 4 → a ≠ b → (F_D a).2.1 ≠ (F_D b).2.1 := by decide +kernel
theorem t_D_ok : ∀ k, k < 4 → parseFieldDescriptor (F_D k).2.2.1 = some (t_D k) := by decide +kernel
theorem i_D : ∀ w ∈ u_ws R_D F_D 4, w ∈ kb_B := by
  intro w hw
  have h : w ∈ ([.laysFinal "GroupDesk" "GroupDesk" "logs" "I", .laysFinal "GroupDesk" "GroupDesk" "groups" "[LGroupDesk$Group;", .laysFinal "GroupDesk" "GroupDesk" "notebook" "LGroupDesk$Notebook;", .lays "GroupDesk" "GroupDesk" "time" "I"] : List Cond) := hw
  simp only [List.mem_cons, List.not_mem_nil, or_false] at h
  rcases h with rfl | rfl | rfl | rfl
  · exact kb_86
  · exact kb_88
  · exact kb_90
  · exact kb_92
def F_N : u_T := fun k => match k with
  | 0 => ("GroupDesk$Notebook", "left", "I", false)
  | _ => ("GroupDesk$Notebook", "written", "I", false)
def t_N : Nat → FieldType := fun k => match k with
  | 0 => .int
  | _ => .int
theorem n_N : ∀ a, a < 2 → ∀ b, b < 2 → a ≠ b → (F_N a).2.1 ≠ (F_N b).2.1 := by decide +kernel
theorem t_N_ok : ∀ k, k < 2 → parseFieldDescriptor (F_N k).2.2.1 = some (t_N k) := by decide +kernel
theorem i_N : ∀ w ∈ u_ws R_N F_N 2, w ∈ kb_B := by
  intro w hw
  have h : w ∈ ([.lays "GroupDesk$Notebook" "GroupDesk$Notebook" "left" "I", .lays "GroupDesk$Notebook" "GroupDesk$Notebook" "written" "I"] : List Cond) := hw
  simp only [List.mem_cons, List.not_mem_nil, or_false] at h
  rcases h with rfl | rfl
  · exact kb_36
  · exact kb_38
def F_G : u_T := fun k => match k with
  | 0 => ("GroupDesk$Group", "generation", "I", false)
  | 1 => ("GroupDesk$Group", "state", "I", false)
  | 2 => ("GroupDesk$Group", "members", "I", false)
  | 3 => ("GroupDesk$Group", "joined", "I", false)
  | 4 => ("GroupDesk$Group", "limit", "I", false)
  | 5 => ("GroupDesk$Group", "heard", "[I", true)
  | _ => ("GroupDesk$Group", "offsets", "[J", true)
def t_G : Nat → FieldType := fun k => match k with
  | 0 => .int
  | 1 => .int
  | 2 => .int
  | 3 => .int
  | 4 => .int
  | 5 => .array .int
  | _ => .array .long
theorem n_G : ∀ a, a < 7 → ∀ b, b < 7 → a ≠ b → (F_G a).2.1 ≠ (F_G b).2.1 := by decide +kernel
theorem t_G_ok : ∀ k, k < 7 → parseFieldDescriptor (F_G k).2.2.1 = some (t_G k) := by decide +kernel
theorem i_G : ∀ w ∈ u_ws R_G F_G 7, w ∈ kb_B := by
  intro w hw
  have h : w ∈ ([.lays "GroupDesk$Group" "GroupDesk$Group" "generation" "I", .lays "GroupDesk$Group" "GroupDesk$Group" "state" "I", .lays "GroupDesk$Group" "GroupDesk$Group" "members" "I", .lays "GroupDesk$Group" "GroupDesk$Group" "joined" "I", .lays "GroupDesk$Group" "GroupDesk$Group" "limit" "I", .laysFinal "GroupDesk$Group" "GroupDesk$Group" "heard" "[I", .laysFinal "GroupDesk$Group" "GroupDesk$Group" "offsets" "[J"] : List Cond) := hw
  simp only [List.mem_cons, List.not_mem_nil, or_false] at h
  rcases h with rfl | rfl | rfl | rfl | rfl | rfl | rfl
  · exact kb_65
  · exact kb_67
  · exact kb_69
  · exact kb_71
  · exact kb_73
  · exact kb_75
  · exact kb_77
def F_M : u_T := fun k => match k with
  | 0 => ("GroupDeskModel", "code", "I", false)
  | 1 => ("GroupDeskModel", "logs", "I", true)
  | 2 => ("GroupDeskModel", "time", "I", false)
  | 3 => ("GroupDeskModel", "room", "I", false)
  | 4 => ("GroupDeskModel", "notes", "I", false)
  | 5 => ("GroupDeskModel", "state", "[I", true)
  | 6 => ("GroupDeskModel", "generation", "[I", true)
  | 7 => ("GroupDeskModel", "limit", "[I", true)
  | 8 => ("GroupDeskModel", "member", "[Z", true)
  | 9 => ("GroupDeskModel", "joined", "[Z", true)
  | 10 => ("GroupDeskModel", "heard", "[I", true)
  | _ => ("GroupDeskModel", "offset", "[J", true)
def t_M : Nat → FieldType := fun k => match k with
  | 0 => .int
  | 1 => .int
  | 2 => .int
  | 3 => .int
  | 4 => .int
  | 5 => .array .int
  | 6 => .array .int
  | 7 => .array .int
  | 8 => .array .boolean
  | 9 => .array .boolean
  | 10 => .array .int
  | _ => .array .long
theorem n_M : ∀ a, a < 12 → ∀ b, b < 12 → a ≠ b → (F_M a).2.1 ≠ (F_M b).2.1 := by decide +kernel
theorem t_M_ok : ∀ k, k < 12 → parseFieldDescriptor (F_M k).2.2.1 = some (t_M k) := by decide +kernel
theorem i_M : ∀ w ∈ u_ws R_M F_M 12, w ∈ kb_B := by
  intro w hw
  have h : w ∈ ([.lays "GroupDeskModel" "GroupDeskModel" "code" "I", .laysFinal "GroupDeskModel" "GroupDeskModel" "logs" "I", .lays "GroupDeskModel" "GroupDeskModel" "time" "I", .lays "GroupDeskModel" "GroupDeskModel" "room" "I", .lays "GroupDeskModel" "GroupDeskModel" "notes" "I", .laysFinal "GroupDeskModel" "GroupDeskModel" "state" "[I", .laysFinal "GroupDeskModel" "GroupDeskModel" "generation" "[I", .laysFinal "GroupDeskModel" "GroupDeskModel" "limit" "[I", .laysFinal "GroupDeskModel" "GroupDeskModel" "member" "[Z", .laysFinal "GroupDeskModel" "GroupDeskModel" "joined" "[Z", .laysFinal "GroupDeskModel" "GroupDeskModel" "heard" "[I", .laysFinal "GroupDeskModel" "GroupDeskModel" "offset" "[J"] : List Cond) := hw
  simp only [List.mem_cons, List.not_mem_nil, or_false] at h
  rcases h with rfl | rfl | rfl | rfl | rfl | rfl | rfl | rfl | rfl | rfl | rfl | rfl
  · exact kb_348
  · exact kb_350
  · exact kb_352
  · exact kb_354
  · exact kb_356
  · exact kb_358
  · exact kb_360
  · exact kb_362
  · exact kb_364
  · exact kb_366
  · exact kb_368
  · exact kb_370
abbrev vwCl : List vw_C := [(R_D, F_D, 4), (R_N, F_N, 2), (R_G, F_G, 7), (R_M, F_M, 12)]
abbrev b_D_init : ByteArray := prog_1_method_1_code
abbrev y_D_init : MethodName := ⟨"GroupDesk", "<init>", "(I)V"⟩
abbrev w_D_init : List Cond := .code y_D_init b_D_init 3 none :: kb_B
abbrev b_N_init : ByteArray := prog_3_method_1_code
abbrev y_N_init : MethodName := ⟨"GroupDesk$Notebook", "<init>", "()V"⟩
abbrev w_N_init : List Cond := .code y_N_init b_N_init 1 none :: kb_B
abbrev b_G_init : ByteArray := prog_2_method_1_code
abbrev y_G_init : MethodName := ⟨"GroupDesk$Group", "<init>", "()V"⟩
abbrev w_G_init : List Cond := .code y_G_init b_G_init 1 none :: kb_B
abbrev b_JA_fillL : ByteArray := prog_13_method_101_code
abbrev y_JA_fillL : MethodName := ⟨"java/util/Arrays", "fill", "([JJ)V"⟩
abbrev w_JA_fillL : List Cond := .code y_JA_fillL b_JA_fillL 5 none :: kb_B
abbrev b_D_restart : ByteArray := prog_1_method_10_code
abbrev y_D_restart : MethodName := ⟨"GroupDesk", "restart", "()I"⟩
abbrev w_D_restart : List Cond := .code y_D_restart b_D_restart 3 (some .int) :: kb_B
abbrev b_JI_bitCount : ByteArray := prog_8_method_49_code
abbrev y_JI_bitCount : MethodName := ⟨"java/lang/Integer", "bitCount", "(I)I"⟩
abbrev w_JI_bitCount : List Cond := .code y_JI_bitCount b_JI_bitCount 1 (some .int) :: kb_B
abbrev b_G_clear : ByteArray := prog_2_method_4_code
abbrev y_G_clear : MethodName := ⟨"GroupDesk$Group", "clear", "()V"⟩
abbrev w_G_clear : List Cond := .code y_G_clear b_G_clear 1 none :: kb_B
abbrev b_D_notes : ByteArray := prog_1_method_12_code
abbrev y_D_notes : MethodName := ⟨"GroupDesk", "notes", "()I"⟩
abbrev w_D_notes : List Cond := .code y_D_notes b_D_notes 1 (some .int) :: kb_B
abbrev b_L_cell : ByteArray := method_2_code
abbrev y_L_cell : MethodName := ⟨"GroupDeskLaw", "cell", "([II)I"⟩
abbrev w_L_cell : List Cond := .code y_L_cell b_L_cell 2 (some .int) :: kb_B
abbrev b_L_join : ByteArray := method_3_code
abbrev y_L_join : MethodName := ⟨"GroupDeskLaw", "join", "(LGroupDesk;II[J)I"⟩
abbrev w_L_join : List Cond := .codeWith y_L_join b_L_join 5 (some .int) [(0, 10, 13, 13)] :: kb_B
abbrev b_D_join : ByteArray := prog_1_method_2_code
abbrev y_D_join : MethodName := ⟨"GroupDesk", "join", "(II)I"⟩
abbrev w_D_join : List Cond := .code y_D_join b_D_join 4 (some .int) :: kb_B
abbrev b_D_groupAt : ByteArray := prog_1_method_14_code
abbrev y_D_groupAt : MethodName := ⟨"GroupDesk", "groupAt", "(I)LGroupDesk$Group;"⟩
abbrev w_D_groupAt : List Cond := .code y_D_groupAt b_D_groupAt 2 (some (.object "GroupDesk$Group")) :: kb_B
abbrev b_D_checkMember : ByteArray := prog_1_method_15_code
abbrev y_D_checkMember : MethodName := ⟨"GroupDesk", "checkMember", "(I)V"⟩
abbrev w_D_checkMember : List Cond := .code y_D_checkMember b_D_checkMember 2 none :: kb_B
abbrev b_G_takeIn : ByteArray := prog_2_method_6_code
abbrev y_G_takeIn : MethodName := ⟨"GroupDesk$Group", "takeIn", "(II)V"⟩
abbrev w_G_takeIn : List Cond := .code y_G_takeIn b_G_takeIn 3 none :: kb_B
abbrev b_G_mix : ByteArray := prog_2_method_5_code
abbrev y_G_mix : MethodName := ⟨"GroupDesk$Group", "mix", "(I)V"⟩
abbrev w_G_mix : List Cond := .code y_G_mix b_G_mix 2 none :: kb_B
abbrev b_G_finishMixing : ByteArray := prog_2_method_9_code
abbrev y_G_finishMixing : MethodName := ⟨"GroupDesk$Group", "finishMixing", "(ILGroupDesk$Notebook;)V"⟩
abbrev w_G_finishMixing : List Cond := .code y_G_finishMixing b_G_finishMixing 3 none :: kb_B
abbrev b_N_write : ByteArray := prog_3_method_2_code
abbrev y_N_write : MethodName := ⟨"GroupDesk$Notebook", "write", "()Z"⟩
abbrev w_N_write : List Cond := .code y_N_write b_N_write 1 (some .boolean) :: kb_B
abbrev b_G_settle : ByteArray := prog_2_method_10_code
abbrev y_G_settle : MethodName := ⟨"GroupDesk$Group", "settle", "(I)V"⟩
abbrev w_G_settle : List Cond := .code y_G_settle b_G_settle 2 none :: kb_B
abbrev b_JA_fillI : ByteArray := prog_13_method_103_code
abbrev y_JA_fillI : MethodName := ⟨"java/util/Arrays", "fill", "([II)V"⟩
abbrev w_JA_fillI : List Cond := .code y_JA_fillI b_JA_fillI 4 none :: kb_B
abbrev b_L_leave : ByteArray := method_4_code
abbrev y_L_leave : MethodName := ⟨"GroupDeskLaw", "leave", "(LGroupDesk;II[J)I"⟩
abbrev w_L_leave : List Cond := .codeWith y_L_leave b_L_leave 5 (some .int) [(0, 10, 13, 13)] :: kb_B
abbrev b_D_leave : ByteArray := prog_1_method_3_code
abbrev y_D_leave : MethodName := ⟨"GroupDesk", "leave", "(II)I"⟩
abbrev w_D_leave : List Cond := .code y_D_leave b_D_leave 4 (some .int) :: kb_B
abbrev b_G_has : ByteArray := prog_2_method_2_code
abbrev y_G_has : MethodName := ⟨"GroupDesk$Group", "has", "(I)Z"⟩
abbrev w_G_has : List Cond := .code y_G_has b_G_has 2 (some .boolean) :: kb_B
abbrev b_G_putOut : ByteArray := prog_2_method_7_code
abbrev y_G_putOut : MethodName := ⟨"GroupDesk$Group", "putOut", "(II)V"⟩
abbrev w_G_putOut : List Cond := .code y_G_putOut b_G_putOut 3 none :: kb_B
abbrev b_L_beat : ByteArray := method_5_code
abbrev y_L_beat : MethodName := ⟨"GroupDeskLaw", "beat", "(LGroupDesk;III[J)I"⟩
abbrev w_L_beat : List Cond := .codeWith y_L_beat b_L_beat 6 (some .int) [(0, 12, 15, 13)] :: kb_B
abbrev b_D_beat : ByteArray := prog_1_method_4_code
abbrev y_D_beat : MethodName := ⟨"GroupDesk", "beat", "(III)I"⟩
abbrev w_D_beat : List Cond := .code y_D_beat b_D_beat 5 (some .int) :: kb_B
abbrev b_G_hasJoined : ByteArray := prog_2_method_3_code
abbrev y_G_hasJoined : MethodName := ⟨"GroupDesk$Group", "hasJoined", "(I)Z"⟩
abbrev w_G_hasJoined : List Cond := .code y_G_hasJoined b_G_hasJoined 2 (some .boolean) :: kb_B
abbrev b_L_commit : ByteArray := method_6_code
abbrev y_L_commit : MethodName := ⟨"GroupDeskLaw", "commit", "(LGroupDesk;IIIIJ[J)I"⟩
abbrev w_L_commit : List Cond := .codeWith y_L_commit b_L_commit 9 (some .int) [(0, 16, 19, 13)] :: kb_B
abbrev b_D_commit : ByteArray := prog_1_method_5_code
abbrev y_D_commit : MethodName := ⟨"GroupDesk", "commit", "(IIIIJ)I"⟩
abbrev w_D_commit : List Cond := .code y_D_commit b_D_commit 9 (some .int) :: kb_B
abbrev b_D_checkLog : ByteArray := prog_1_method_16_code
abbrev y_D_checkLog : MethodName := ⟨"GroupDesk", "checkLog", "(I)V"⟩
abbrev w_D_checkLog : List Cond := .code y_D_checkLog b_D_checkLog 2 none :: kb_B
abbrev b_G_refusalOf : ByteArray := prog_2_method_13_code
abbrev y_G_refusalOf : MethodName := ⟨"GroupDesk$Group", "refusalOf", "(III)I"⟩
abbrev w_G_refusalOf : List Cond := .code y_G_refusalOf b_G_refusalOf 4 (some .int) :: kb_B
abbrev b_G_gives : ByteArray := prog_2_method_12_code
abbrev y_G_gives : MethodName := ⟨"GroupDesk$Group", "gives", "(II)Z"⟩
abbrev w_G_gives : List Cond := .code y_G_gives b_G_gives 5 (some .boolean) :: kb_B
abbrev b_L_committed : ByteArray := method_7_code
abbrev y_L_committed : MethodName := ⟨"GroupDeskLaw", "committed", "(LGroupDesk;II[J)I"⟩
abbrev w_L_committed : List Cond := .codeWith y_L_committed b_L_committed 5 (some .int) [(0, 9, 12, 13)] :: kb_B
abbrev b_D_committed : ByteArray := prog_1_method_6_code
abbrev y_D_committed : MethodName := ⟨"GroupDesk", "committed", "(II)J"⟩
abbrev w_D_committed : List Cond := .code y_D_committed b_D_committed 4 (some .long) :: kb_B
abbrev b_L_group : ByteArray := method_8_code
abbrev y_L_group : MethodName := ⟨"GroupDeskLaw", "group", "(LGroupDesk;II[J)I"⟩
abbrev w_L_group : List Cond := .codeWith y_L_group b_L_group 5 (some .int) [(0, 10, 13, 13)] :: kb_B
abbrev b_D_group : ByteArray := prog_1_method_7_code
abbrev y_D_group : MethodName := ⟨"GroupDesk", "group", "(II)I"⟩
abbrev w_D_group : List Cond := .code y_D_group b_D_group 4 (some .int) :: kb_B
abbrev b_G_ticksToLimit : ByteArray := prog_2_method_11_code
abbrev y_G_ticksToLimit : MethodName := ⟨"GroupDesk$Group", "ticksToLimit", "(I)I"⟩
abbrev w_G_ticksToLimit : List Cond := .code y_G_ticksToLimit b_G_ticksToLimit 2 (some .int) :: kb_B
abbrev b_L_share : ByteArray := method_9_code
abbrev y_L_share : MethodName := ⟨"GroupDeskLaw", "share", "(LGroupDesk;II[J)I"⟩
abbrev w_L_share : List Cond := .codeWith y_L_share b_L_share 5 (some .int) [(0, 10, 13, 13)] :: kb_B
abbrev b_D_share : ByteArray := prog_1_method_8_code
abbrev y_D_share : MethodName := ⟨"GroupDesk", "share", "(II)I"⟩
abbrev w_D_share : List Cond := .code y_D_share b_D_share 6 (some .int) :: kb_B
abbrev b_L_room : ByteArray := method_10_code
abbrev y_L_room : MethodName := ⟨"GroupDeskLaw", "room", "(LGroupDesk;I[J)I"⟩
abbrev w_L_room : List Cond := .codeWith y_L_room b_L_room 4 (some .int) [(0, 9, 12, 13)] :: kb_B
abbrev b_D_room : ByteArray := prog_1_method_9_code
abbrev y_D_room : MethodName := ⟨"GroupDesk", "room", "(I)I"⟩
abbrev w_D_room : List Cond := .code y_D_room b_D_room 3 (some .int) :: kb_B
abbrev b_L_ticks : ByteArray := method_11_code
abbrev y_L_ticks : MethodName := ⟨"GroupDeskLaw", "ticks", "(LGroupDesk;I[J)I"⟩
abbrev w_L_ticks : List Cond := .codeWith y_L_ticks b_L_ticks 4 (some .int) [(0, 9, 12, 13)] :: kb_B
abbrev b_D_ticks : ByteArray := prog_1_method_11_code
abbrev y_D_ticks : MethodName := ⟨"GroupDesk", "ticks", "(I)I"⟩
abbrev w_D_ticks : List Cond := .code y_D_ticks b_D_ticks 3 (some .int) :: kb_B
abbrev b_D_tick : ByteArray := prog_1_method_13_code
abbrev y_D_tick : MethodName := ⟨"GroupDesk", "tick", "()V"⟩
abbrev w_D_tick : List Cond := .code y_D_tick b_D_tick 2 none :: kb_B
abbrev b_G_dropSilent : ByteArray := prog_2_method_8_code
abbrev y_G_dropSilent : MethodName := ⟨"GroupDesk$Group", "dropSilent", "(I)V"⟩
abbrev w_G_dropSilent : List Cond := .code y_G_dropSilent b_G_dropSilent 4 none :: kb_B
abbrev b_M_init : ByteArray := prog_5_method_1_code
abbrev y_M_init : MethodName := ⟨"GroupDeskModel", "<init>", "(I)V"⟩
abbrev w_M_init : List Cond := .code y_M_init b_M_init 4 none :: kb_B
abbrev b_M_thrown : ByteArray := prog_5_method_2_code
abbrev y_M_thrown : MethodName := ⟨"GroupDeskModel", "thrown", "()I"⟩
abbrev w_M_thrown : List Cond := .code y_M_thrown b_M_thrown 1 (some .int) :: kb_B
abbrev b_M_join : ByteArray := prog_5_method_12_code
abbrev y_M_join : MethodName := ⟨"GroupDeskModel", "join", "(II)I"⟩
abbrev w_M_join : List Cond := .code y_M_join b_M_join 3 (some .int) :: kb_B
abbrev b_M_isOne : ByteArray := prog_5_method_4_code
abbrev y_M_isOne : MethodName := ⟨"GroupDeskModel", "isOne", "(I)Z"⟩
abbrev w_M_isOne : List Cond := .code y_M_isOne b_M_isOne 1 (some .boolean) :: kb_B
abbrev b_M_goes : ByteArray := prog_5_method_3_code
abbrev y_M_goes : MethodName := ⟨"GroupDeskModel", "goes", "(Z)Z"⟩
abbrev w_M_goes : List Cond := .code y_M_goes b_M_goes 2 (some .boolean) :: kb_B
abbrev b_M_mixes : ByteArray := prog_5_method_8_code
abbrev y_M_mixes : MethodName := ⟨"GroupDeskModel", "mixes", "(I)V"⟩
abbrev w_M_mixes : List Cond := .code y_M_mixes b_M_mixes 3 none :: kb_B
abbrev b_M_mayBeDone : ByteArray := prog_5_method_9_code
abbrev y_M_mayBeDone : MethodName := ⟨"GroupDeskModel", "mayBeDone", "(I)V"⟩
abbrev w_M_mayBeDone : List Cond := .code y_M_mayBeDone b_M_mayBeDone 5 none :: kb_B
abbrev b_M_count : ByteArray := prog_5_method_5_code
abbrev y_M_count : MethodName := ⟨"GroupDeskModel", "count", "(I)I"⟩
abbrev w_M_count : List Cond := .code y_M_count b_M_count 4 (some .int) :: kb_B
abbrev b_M_joinedOf : ByteArray := prog_5_method_6_code
abbrev y_M_joinedOf : MethodName := ⟨"GroupDeskModel", "joinedOf", "(I)I"⟩
abbrev w_M_joinedOf : List Cond := .code y_M_joinedOf b_M_joinedOf 4 (some .int) :: kb_B
abbrev b_M_empties : ByteArray := prog_5_method_10_code
abbrev y_M_empties : MethodName := ⟨"GroupDeskModel", "empties", "(I)V"⟩
abbrev w_M_empties : List Cond := .code y_M_empties b_M_empties 3 none :: kb_B
abbrev b_M_takesNote : ByteArray := prog_5_method_7_code
abbrev y_M_takesNote : MethodName := ⟨"GroupDeskModel", "takesNote", "()Z"⟩
abbrev w_M_takesNote : List Cond := .code y_M_takesNote b_M_takesNote 1 (some .boolean) :: kb_B
abbrev b_M_leave : ByteArray := prog_5_method_13_code
abbrev y_M_leave : MethodName := ⟨"GroupDeskModel", "leave", "(II)I"⟩
abbrev w_M_leave : List Cond := .code y_M_leave b_M_leave 3 (some .int) :: kb_B
abbrev b_M_without : ByteArray := prog_5_method_11_code
abbrev y_M_without : MethodName := ⟨"GroupDeskModel", "without", "(I)V"⟩
abbrev w_M_without : List Cond := .code y_M_without b_M_without 2 none :: kb_B
abbrev b_M_beat : ByteArray := prog_5_method_14_code
abbrev y_M_beat : MethodName := ⟨"GroupDeskModel", "beat", "(III)I"⟩
abbrev w_M_beat : List Cond := .code y_M_beat b_M_beat 4 (some .int) :: kb_B
abbrev b_M_commit : ByteArray := prog_5_method_16_code
abbrev y_M_commit : MethodName := ⟨"GroupDeskModel", "commit", "(IIIIJ)I"⟩
abbrev w_M_commit : List Cond := .code y_M_commit b_M_commit 7 (some .int) :: kb_B
abbrev b_M_owner : ByteArray := prog_5_method_15_code
abbrev y_M_owner : MethodName := ⟨"GroupDeskModel", "owner", "(II)I"⟩
abbrev w_M_owner : List Cond := .code y_M_owner b_M_owner 5 (some .int) :: kb_B
abbrev b_M_committed : ByteArray := prog_5_method_17_code
abbrev y_M_committed : MethodName := ⟨"GroupDeskModel", "committed", "(II)J"⟩
abbrev w_M_committed : List Cond := .code y_M_committed b_M_committed 3 (some .long) :: kb_B
abbrev b_M_group : ByteArray := prog_5_method_18_code
abbrev y_M_group : MethodName := ⟨"GroupDeskModel", "group", "(II)I"⟩
abbrev w_M_group : List Cond := .code y_M_group b_M_group 6 (some .int) :: kb_B
abbrev b_M_share : ByteArray := prog_5_method_19_code
abbrev y_M_share : MethodName := ⟨"GroupDeskModel", "share", "(II)I"⟩
abbrev w_M_share : List Cond := .code y_M_share b_M_share 5 (some .int) :: kb_B
abbrev b_M_room : ByteArray := prog_5_method_20_code
abbrev y_M_room : MethodName := ⟨"GroupDeskModel", "room", "(I)I"⟩
abbrev w_M_room : List Cond := .code y_M_room b_M_room 3 (some .int) :: kb_B
abbrev b_M_restart : ByteArray := prog_5_method_21_code
abbrev y_M_restart : MethodName := ⟨"GroupDeskModel", "restart", "()I"⟩
abbrev w_M_restart : List Cond := .code y_M_restart b_M_restart 3 (some .int) :: kb_B
abbrev b_M_ticks : ByteArray := prog_5_method_23_code
abbrev y_M_ticks : MethodName := ⟨"GroupDeskModel", "ticks", "(I)I"⟩
abbrev w_M_ticks : List Cond := .code y_M_ticks b_M_ticks 4 (some .int) :: kb_B
abbrev b_M_tick : ByteArray := prog_5_method_22_code
abbrev y_M_tick : MethodName := ⟨"GroupDeskModel", "tick", "(I)V"⟩
abbrev w_M_tick : List Cond := .code y_M_tick b_M_tick 4 none :: kb_B
abbrev b_M_notes : ByteArray := prog_5_method_24_code
abbrev y_M_notes : MethodName := ⟨"GroupDeskModel", "notes", "()I"⟩
abbrev w_M_notes : List Cond := .code y_M_notes b_M_notes 1 (some .int) :: kb_B
abbrev b_L_law : ByteArray := code
abbrev y_L_law : MethodName := ⟨"GroupDeskLaw", "law", "([I)Z"⟩
end
section
theorem d_D_init_0 : decode b_D_init 0 = .ok (.aload_n 0, 1) := by decide +kernel
theorem d_D_init_1 : decode b_D_init 1 = .ok (.invokespecial 1, 3) := by decide +kernel
theorem d_D_init_4 : decode b_D_init 4 = .ok (.aload_n 0, 1) := by decide +kernel
theorem d_D_init_5 : decode b_D_init 5 = .ok (.iload_n 1, 1) := by decide +kernel
theorem d_D_init_6 : decode b_D_init 6 = .ok (.iconst 1, 1) := by decide +kernel
theorem d_D_init_7 : decode b_D_init 7 = .ok (.invokestatic 7, 3) := by decide +kernel
theorem d_D_init_10 : decode b_D_init 10 = .ok (.bipush 8, 2) := by decide +kernel
theorem d_D_init_12 : decode b_D_init 12 = .ok (.invokestatic 15, 3) := by decide +kernel
theorem d_D_init_15 : decode b_D_init 15 = .ok (.putfield 18, 3) := by decide +kernel
theorem d_D_init_18 : decode b_D_init 18 = .ok (.aload_n 0, 1) := by decide +kernel
theorem d_D_init_19 : decode b_D_init 19 = .ok (.new 22, 3) := by decide +kernel
theorem d_D_init_22 : decode b_D_init 22 = .ok (.dup, 1) := by decide +kernel
theorem d_D_init_23 : decode b_D_init 23 = .ok (.invokespecial 24, 3) := by decide +kernel
theorem d_D_init_26 : decode b_D_init 26 = .ok (.putfield 25, 3) := by decide +kernel
theorem d_D_init_29 : decode b_D_init 29 = .ok (.aload_n 0, 1) := by decide +kernel
theorem d_D_init_30 : decode b_D_init 30 = .ok (.bipush 8, 2) := by decide +kernel
theorem d_D_init_32 : decode b_D_init 32 = .ok (.anewarray 29, 3) := by decide +kernel
theorem d_D_init_35 : decode b_D_init 35 = .ok (.putfield 31, 3) := by decide +kernel
theorem d_D_init_38 : decode b_D_init 38 = .ok (.iconst 0, 1) := by decide +kernel
theorem d_D_init_39 : decode b_D_init 39 = .ok (.istore_n 2, 1) := by decide +kernel
theorem d_D_init_40 : decode b_D_init 40 = .ok (.iload_n 2, 1) := by decide +kernel
theorem d_D_init_41 : decode b_D_init 41 = .ok (.bipush 8, 2) := by decide +kernel
theorem d_D_init_43 : decode b_D_init 43 = .ok (.if_icmp .ge 22, 3) := by decide +kernel
theorem d_D_init_46 : decode b_D_init 46 = .ok (.aload_n 0, 1) := by decide +kernel
theorem d_D_init_47 : decode b_D_init 47 = .ok (.getfield 31, 3) := by decide +kernel
theorem d_D_init_50 : decode b_D_init 50 = .ok (.iload_n 2, 1) := by decide +kernel
theorem d_D_init_51 : decode b_D_init 51 = .ok (.new 29, 3) := by decide +kernel
theorem d_D_init_54 : decode b_D_init 54 = .ok (.dup, 1) := by decide +kernel
theorem d_D_init_55 : decode b_D_init 55 = .ok (.invokespecial 35, 3) := by decide +kernel
theorem d_D_init_58 : decode b_D_init 58 = .ok (.aastore, 1) := by decide +kernel
theorem d_D_init_59 : decode b_D_init 59 = .ok (.iinc 2 1, 3) := by decide +kernel
theorem d_D_init_62 : decode b_D_init 62 = .ok (.goto (-22), 3) := by decide +kernel
theorem d_D_init_65 : decode b_D_init 65 = .ok (.return_, 1) := by decide +kernel
theorem d_N_init_0 : decode b_N_init 0 = .ok (.aload_n 0, 1) := by decide +kernel
theorem d_N_init_1 : decode b_N_init 1 = .ok (.invokespecial 3, 3) := by decide +kernel
theorem d_N_init_4 : decode b_N_init 4 = .ok (.aload_n 0, 1) := by decide +kernel
theorem d_N_init_5 : decode b_N_init 5 = .ok (.sipush 1000, 3) := by decide +kernel
theorem d_N_init_8 : decode b_N_init 8 = .ok (.putfield 9, 3) := by decide +kernel
theorem d_N_init_11 : decode b_N_init 11 = .ok (.return_, 1) := by decide +kernel
theorem d_G_init_0 : decode b_G_init 0 = .ok (.aload_n 0, 1) := by decide +kernel
theorem d_G_init_1 : decode b_G_init 1 = .ok (.invokespecial 3, 3) := by decide +kernel
theorem d_G_init_4 : decode b_G_init 4 = .ok (.aload_n 0, 1) := by decide +kernel
theorem d_G_init_5 : decode b_G_init 5 = .ok (.iconst 0, 1) := by decide +kernel
theorem d_G_init_6 : decode b_G_init 6 = .ok (.putfield 9, 3) := by decide +kernel
theorem d_G_init_9 : decode b_G_init 9 = .ok (.aload_n 0, 1) := by decide +kernel
theorem d_G_init_10 : decode b_G_init 10 = .ok (.bipush 8, 2) := by decide +kernel
theorem d_G_init_12 : decode b_G_init 12 = .ok (.newarray .int, 2) := by decide +kernel
theorem d_G_init_14 : decode b_G_init 14 = .ok (.putfield 15, 3) := by decide +kernel
theorem d_G_init_17 : decode b_G_init 17 = .ok (.aload_n 0, 1) := by decide +kernel
theorem d_G_init_18 : decode b_G_init 18 = .ok (.bipush 8, 2) := by decide +kernel
theorem d_G_init_20 : decode b_G_init 20 = .ok (.newarray .long, 2) := by decide +kernel
theorem d_G_init_22 : decode b_G_init 22 = .ok (.putfield 19, 3) := by decide +kernel
theorem d_G_init_25 : decode b_G_init 25 = .ok (.aload_n 0, 1) := by decide +kernel
theorem d_G_init_26 : decode b_G_init 26 = .ok (.getfield 19, 3) := by decide +kernel
theorem d_G_init_29 : decode b_G_init 29 = .ok (.ldc2_w 23, 3) := by decide +kernel
theorem d_G_init_32 : decode b_G_init 32 = .ok (.invokestatic 25, 3) := by decide +kernel
theorem d_G_init_35 : decode b_G_init 35 = .ok (.return_, 1) := by decide +kernel
theorem d_JA_fillL_0 : decode b_JA_fillL 0 = .ok (.iconst 0, 1) := by decide +kernel
theorem d_JA_fillL_1 : decode b_JA_fillL 1 = .ok (.istore_n 3, 1) := by decide +kernel
theorem d_JA_fillL_2 : decode b_JA_fillL 2 = .ok (.aload_n 0, 1) := by decide +kernel
theorem d_JA_fillL_3 : decode b_JA_fillL 3 = .ok (.arraylength, 1) := by decide +kernel
theorem d_JA_fillL_4 : decode b_JA_fillL 4 = .ok (.istore 4, 2) := by decide +kernel
theorem d_JA_fillL_6 : decode b_JA_fillL 6 = .ok (.iload_n 3, 1) := by decide +kernel
theorem d_JA_fillL_7 : decode b_JA_fillL 7 = .ok (.iload 4, 2) := by decide +kernel
theorem d_JA_fillL_9 : decode b_JA_fillL 9 = .ok (.if_icmp .ge 13, 3) := by decide +kernel
theorem d_JA_fillL_12 : decode b_JA_fillL 12 = .ok (.aload_n 0, 1) := by decide +kernel
theorem d_JA_fillL_13 : decode b_JA_fillL 13 = .ok (.iload_n 3, 1) := by decide +kernel
theorem d_JA_fillL_14 : decode b_JA_fillL 14 = .ok (.lload_n 1, 1) := by decide +kernel
theorem d_JA_fillL_15 : decode b_JA_fillL 15 = .ok (.lastore, 1) := by decide +kernel
theorem d_JA_fillL_16 : decode b_JA_fillL 16 = .ok (.iinc 3 1, 3) := by decide +kernel
theorem d_JA_fillL_19 : decode b_JA_fillL 19 = .ok (.goto (-13), 3) := by decide +kernel
theorem d_JA_fillL_22 : decode b_JA_fillL 22 = .ok (.return_, 1) := by decide +kernel
theorem d_D_restart_0 : decode b_D_restart 0 = .ok (.iconst 0, 1) := by decide +kernel
theorem d_D_restart_1 : decode b_D_restart 1 = .ok (.istore_n 1, 1) := by decide +kernel
theorem d_D_restart_2 : decode b_D_restart 2 = .ok (.iconst 0, 1) := by decide +kernel
theorem d_D_restart_3 : decode b_D_restart 3 = .ok (.istore_n 2, 1) := by decide +kernel
theorem d_D_restart_4 : decode b_D_restart 4 = .ok (.iload_n 2, 1) := by decide +kernel
theorem d_D_restart_5 : decode b_D_restart 5 = .ok (.bipush 8, 2) := by decide +kernel
theorem d_D_restart_7 : decode b_D_restart 7 = .ok (.if_icmp .ge 33, 3) := by decide +kernel
theorem d_D_restart_10 : decode b_D_restart 10 = .ok (.iload_n 1, 1) := by decide +kernel
theorem d_D_restart_11 : decode b_D_restart 11 = .ok (.aload_n 0, 1) := by decide +kernel
theorem d_D_restart_12 : decode b_D_restart 12 = .ok (.getfield 31, 3) := by decide +kernel
theorem d_D_restart_15 : decode b_D_restart 15 = .ok (.iload_n 2, 1) := by decide +kernel
theorem d_D_restart_16 : decode b_D_restart 16 = .ok (.aaload, 1) := by decide +kernel
theorem d_D_restart_17 : decode b_D_restart 17 = .ok (.getfield 97, 3) := by decide +kernel
theorem d_D_restart_20 : decode b_D_restart 20 = .ok (.invokestatic 119, 3) := by decide +kernel
theorem d_D_restart_23 : decode b_D_restart 23 = .ok (.iadd, 1) := by decide +kernel
theorem d_D_restart_24 : decode b_D_restart 24 = .ok (.istore_n 1, 1) := by decide +kernel
theorem d_D_restart_25 : decode b_D_restart 25 = .ok (.aload_n 0, 1) := by decide +kernel
theorem d_D_restart_26 : decode b_D_restart 26 = .ok (.getfield 31, 3) := by decide +kernel
theorem d_D_restart_29 : decode b_D_restart 29 = .ok (.iload_n 2, 1) := by decide +kernel
theorem d_D_restart_30 : decode b_D_restart 30 = .ok (.aaload, 1) := by decide +kernel
theorem d_D_restart_31 : decode b_D_restart 31 = .ok (.invokevirtual 124, 3) := by decide +kernel
theorem d_D_restart_34 : decode b_D_restart 34 = .ok (.iinc 2 1, 3) := by decide +kernel
theorem d_D_restart_37 : decode b_D_restart 37 = .ok (.goto (-33), 3) := by decide +kernel
theorem d_D_restart_40 : decode b_D_restart 40 = .ok (.iload_n 1, 1) := by decide +kernel
theorem d_D_restart_41 : decode b_D_restart 41 = .ok (.ireturn, 1) := by decide +kernel
theorem d_JI_bitCount_0 : decode b_JI_bitCount 0 = .ok (.iload_n 0, 1) := by decide +kernel
theorem d_JI_bitCount_1 : decode b_JI_bitCount 1 = .ok (.iload_n 0, 1) := by decide +kernel
theorem d_JI_bitCount_2 : decode b_JI_bitCount 2 = .ok (.iconst 1, 1) := by decide +kernel
theorem d_JI_bitCount_3 : decode b_JI_bitCount 3 = .ok (.iushr, 1) := by decide +kernel
theorem d_JI_bitCount_4 : decode b_JI_bitCount 4 = .ok (.ldc_w 265, 3) := by decide +kernel
theorem d_JI_bitCount_7 : decode b_JI_bitCount 7 = .ok (.iand, 1) := by decide +kernel
theorem d_JI_bitCount_8 : decode b_JI_bitCount 8 = .ok (.isub, 1) := by decide +kernel
theorem d_JI_bitCount_9 : decode b_JI_bitCount 9 = .ok (.istore_n 0, 1) := by decide +kernel
theorem d_JI_bitCount_10 : decode b_JI_bitCount 10 = .ok (.iload_n 0, 1) := by decide +kernel
theorem d_JI_bitCount_11 : decode b_JI_bitCount 11 = .ok (.ldc_w 266, 3) := by decide +kernel
theorem d_JI_bitCount_14 : decode b_JI_bitCount 14 = .ok (.iand, 1) := by decide +kernel
theorem d_JI_bitCount_15 : decode b_JI_bitCount 15 = .ok (.iload_n 0, 1) := by decide +kernel
theorem d_JI_bitCount_16 : decode b_JI_bitCount 16 = .ok (.iconst 2, 1) := by decide +kernel
theorem d_JI_bitCount_17 : decode b_JI_bitCount 17 = .ok (.iushr, 1) := by decide +kernel
theorem d_JI_bitCount_18 : decode b_JI_bitCount 18 = .ok (.ldc_w 266, 3) := by decide +kernel
theorem d_JI_bitCount_21 : decode b_JI_bitCount 21 = .ok (.iand, 1) := by decide +kernel
theorem d_JI_bitCount_22 : decode b_JI_bitCount 22 = .ok (.iadd, 1) := by decide +kernel
theorem d_JI_bitCount_23 : decode b_JI_bitCount 23 = .ok (.istore_n 0, 1) := by decide +kernel
theorem d_JI_bitCount_24 : decode b_JI_bitCount 24 = .ok (.iload_n 0, 1) := by decide +kernel
theorem d_JI_bitCount_25 : decode b_JI_bitCount 25 = .ok (.iload_n 0, 1) := by decide +kernel
theorem d_JI_bitCount_26 : decode b_JI_bitCount 26 = .ok (.iconst 4, 1) := by decide +kernel
theorem d_JI_bitCount_27 : decode b_JI_bitCount 27 = .ok (.iushr, 1) := by decide +kernel
theorem d_JI_bitCount_28 : decode b_JI_bitCount 28 = .ok (.iadd, 1) := by decide +kernel
theorem d_JI_bitCount_29 : decode b_JI_bitCount 29 = .ok (.ldc_w 267, 3) := by decide +kernel
theorem d_JI_bitCount_32 : decode b_JI_bitCount 32 = .ok (.iand, 1) := by decide +kernel
theorem d_JI_bitCount_33 : decode b_JI_bitCount 33 = .ok (.istore_n 0, 1) := by decide +kernel
theorem d_JI_bitCount_34 : decode b_JI_bitCount 34 = .ok (.iload_n 0, 1) := by decide +kernel
theorem d_JI_bitCount_35 : decode b_JI_bitCount 35 = .ok (.iload_n 0, 1) := by decide +kernel
theorem d_JI_bitCount_36 : decode b_JI_bitCount 36 = .ok (.bipush 8, 2) := by decide +kernel
theorem d_JI_bitCount_38 : decode b_JI_bitCount 38 = .ok (.iushr, 1) := by decide +kernel
theorem d_JI_bitCount_39 : decode b_JI_bitCount 39 = .ok (.iadd, 1) := by decide +kernel
theorem d_JI_bitCount_40 : decode b_JI_bitCount 40 = .ok (.istore_n 0, 1) := by decide +kernel
theorem d_JI_bitCount_41 : decode b_JI_bitCount 41 = .ok (.iload_n 0, 1) := by decide +kernel
theorem d_JI_bitCount_42 : decode b_JI_bitCount 42 = .ok (.iload_n 0, 1) := by decide +kernel
theorem d_JI_bitCount_43 : decode b_JI_bitCount 43 = .ok (.bipush 16, 2) := by decide +kernel
theorem d_JI_bitCount_45 : decode b_JI_bitCount 45 = .ok (.iushr, 1) := by decide +kernel
theorem d_JI_bitCount_46 : decode b_JI_bitCount 46 = .ok (.iadd, 1) := by decide +kernel
theorem d_JI_bitCount_47 : decode b_JI_bitCount 47 = .ok (.istore_n 0, 1) := by decide +kernel
theorem d_JI_bitCount_48 : decode b_JI_bitCount 48 = .ok (.iload_n 0, 1) := by decide +kernel
theorem d_JI_bitCount_49 : decode b_JI_bitCount 49 = .ok (.bipush 63, 2) := by decide +kernel
theorem d_JI_bitCount_51 : decode b_JI_bitCount 51 = .ok (.iand, 1) := by decide +kernel
theorem d_JI_bitCount_52 : decode b_JI_bitCount 52 = .ok (.ireturn, 1) := by decide +kernel
theorem d_G_clear_0 : decode b_G_clear 0 = .ok (.aload_n 0, 1) := by decide +kernel
theorem d_G_clear_1 : decode b_G_clear 1 = .ok (.iconst 0, 1) := by decide +kernel
theorem d_G_clear_2 : decode b_G_clear 2 = .ok (.putfield 9, 3) := by decide +kernel
theorem d_G_clear_5 : decode b_G_clear 5 = .ok (.aload_n 0, 1) := by decide +kernel
theorem d_G_clear_6 : decode b_G_clear 6 = .ok (.iconst 0, 1) := by decide +kernel
theorem d_G_clear_7 : decode b_G_clear 7 = .ok (.putfield 31, 3) := by decide +kernel
theorem d_G_clear_10 : decode b_G_clear 10 = .ok (.aload_n 0, 1) := by decide +kernel
theorem d_G_clear_11 : decode b_G_clear 11 = .ok (.iconst 0, 1) := by decide +kernel
theorem d_G_clear_12 : decode b_G_clear 12 = .ok (.putfield 34, 3) := by decide +kernel
theorem d_G_clear_15 : decode b_G_clear 15 = .ok (.return_, 1) := by decide +kernel
theorem d_D_notes_0 : decode b_D_notes 0 = .ok (.aload_n 0, 1) := by decide +kernel
theorem d_D_notes_1 : decode b_D_notes 1 = .ok (.getfield 25, 3) := by decide +kernel
theorem d_D_notes_4 : decode b_D_notes 4 = .ok (.getfield 135, 3) := by decide +kernel
theorem d_D_notes_7 : decode b_D_notes 7 = .ok (.ireturn, 1) := by decide +kernel
theorem d_D_join_0 : decode b_D_join 0 = .ok (.aload_n 0, 1) := by decide +kernel
theorem d_D_join_1 : decode b_D_join 1 = .ok (.iload_n 1, 1) := by decide +kernel
theorem d_D_join_2 : decode b_D_join 2 = .ok (.invokevirtual 36, 3) := by decide +kernel
theorem d_D_join_5 : decode b_D_join 5 = .ok (.astore_n 3, 1) := by decide +kernel
theorem d_D_join_6 : decode b_D_join 6 = .ok (.aload_n 0, 1) := by decide +kernel
theorem d_D_join_7 : decode b_D_join 7 = .ok (.iload_n 2, 1) := by decide +kernel
theorem d_D_join_8 : decode b_D_join 8 = .ok (.invokevirtual 40, 3) := by decide +kernel
theorem d_D_join_11 : decode b_D_join 11 = .ok (.aload_n 3, 1) := by decide +kernel
theorem d_D_join_12 : decode b_D_join 12 = .ok (.iload_n 2, 1) := by decide +kernel
theorem d_D_join_13 : decode b_D_join 13 = .ok (.aload_n 0, 1) := by decide +kernel
theorem d_D_join_14 : decode b_D_join 14 = .ok (.getfield 44, 3) := by decide +kernel
theorem d_D_join_17 : decode b_D_join 17 = .ok (.invokevirtual 47, 3) := by decide +kernel
theorem d_D_join_20 : decode b_D_join 20 = .ok (.aload_n 3, 1) := by decide +kernel
theorem d_D_join_21 : decode b_D_join 21 = .ok (.aload_n 0, 1) := by decide +kernel
theorem d_D_join_22 : decode b_D_join 22 = .ok (.getfield 44, 3) := by decide +kernel
theorem d_D_join_25 : decode b_D_join 25 = .ok (.aload_n 0, 1) := by decide +kernel
theorem d_D_join_26 : decode b_D_join 26 = .ok (.getfield 25, 3) := by decide +kernel
theorem d_D_join_29 : decode b_D_join 29 = .ok (.invokevirtual 51, 3) := by decide +kernel
theorem d_D_join_32 : decode b_D_join 32 = .ok (.aload_n 3, 1) := by decide +kernel
theorem d_D_join_33 : decode b_D_join 33 = .ok (.getfield 55, 3) := by decide +kernel
theorem d_D_join_36 : decode b_D_join 36 = .ok (.iconst 2, 1) := by decide +kernel
theorem d_D_join_37 : decode b_D_join 37 = .ok (.if_icmp .ne 10, 3) := by decide +kernel
theorem d_D_join_40 : decode b_D_join 40 = .ok (.aload_n 3, 1) := by decide +kernel
theorem d_D_join_41 : decode b_D_join 41 = .ok (.getfield 58, 3) := by decide +kernel
theorem d_D_join_44 : decode b_D_join 44 = .ok (.goto 4, 3) := by decide +kernel
theorem d_D_join_47 : decode b_D_join 47 = .ok (.iconst (-1), 1) := by decide +kernel
theorem d_D_join_48 : decode b_D_join 48 = .ok (.ireturn, 1) := by decide +kernel
theorem d_D_groupAt_0 : decode b_D_groupAt 0 = .ok (.iload_n 1, 1) := by decide +kernel
theorem d_D_groupAt_1 : decode b_D_groupAt 1 = .ok (.ifCond .lt 9, 3) := by decide +kernel
theorem d_D_groupAt_4 : decode b_D_groupAt 4 = .ok (.iload_n 1, 1) := by decide +kernel
theorem d_D_groupAt_5 : decode b_D_groupAt 5 = .ok (.bipush 8, 2) := by decide +kernel
theorem d_D_groupAt_7 : decode b_D_groupAt 7 = .ok (.if_icmp .lt 13, 3) := by decide +kernel
theorem d_D_groupAt_10 : decode b_D_groupAt 10 = .ok (.new 78, 3) := by decide +kernel
theorem d_D_groupAt_13 : decode b_D_groupAt 13 = .ok (.dup, 1) := by decide +kernel
theorem d_D_groupAt_14 : decode b_D_groupAt 14 = .ok (.ldc 141, 2) := by decide +kernel
theorem d_D_groupAt_16 : decode b_D_groupAt 16 = .ok (.invokespecial 82, 3) := by decide +kernel
theorem d_D_groupAt_19 : decode b_D_groupAt 19 = .ok (.athrow, 1) := by decide +kernel
theorem d_D_groupAt_20 : decode b_D_groupAt 20 = .ok (.aload_n 0, 1) := by decide +kernel
theorem d_D_groupAt_21 : decode b_D_groupAt 21 = .ok (.getfield 31, 3) := by decide +kernel
theorem d_D_groupAt_24 : decode b_D_groupAt 24 = .ok (.iload_n 1, 1) := by decide +kernel
theorem d_D_groupAt_25 : decode b_D_groupAt 25 = .ok (.aaload, 1) := by decide +kernel
theorem d_D_groupAt_26 : decode b_D_groupAt 26 = .ok (.areturn, 1) := by decide +kernel
theorem d_D_checkMember_0 : decode b_D_checkMember 0 = .ok (.iload_n 1, 1) := by decide +kernel
theorem d_D_checkMember_1 : decode b_D_checkMember 1 = .ok (.ifCond .lt 9, 3) := by decide +kernel
theorem d_D_checkMember_4 : decode b_D_checkMember 4 = .ok (.iload_n 1, 1) := by decide +kernel
theorem d_D_checkMember_5 : decode b_D_checkMember 5 = .ok (.bipush 8, 2) := by decide +kernel
theorem d_D_checkMember_7 : decode b_D_checkMember 7 = .ok (.if_icmp .lt 13, 3) := by decide +kernel
theorem d_D_checkMember_10 : decode b_D_checkMember 10 = .ok (.new 78, 3) := by decide +kernel
theorem d_D_checkMember_13 : decode b_D_checkMember 13 = .ok (.dup, 1) := by decide +kernel
theorem d_D_checkMember_14 : decode b_D_checkMember 14 = .ok (.ldc 143, 2) := by decide +kernel
theorem d_D_checkMember_16 : decode b_D_checkMember 16 = .ok (.invokespecial 82, 3) := by decide +kernel
theorem d_D_checkMember_19 : decode b_D_checkMember 19 = .ok (.athrow, 1) := by decide +kernel
theorem d_D_checkMember_20 : decode b_D_checkMember 20 = .ok (.return_, 1) := by decide +kernel
theorem d_G_takeIn_0 : decode b_G_takeIn 0 = .ok (.aload_n 0, 1) := by decide +kernel
theorem d_G_takeIn_1 : decode b_G_takeIn 1 = .ok (.getfield 9, 3) := by decide +kernel
theorem d_G_takeIn_4 : decode b_G_takeIn 4 = .ok (.iconst 1, 1) := by decide +kernel
theorem d_G_takeIn_5 : decode b_G_takeIn 5 = .ok (.if_icmp .eq 8, 3) := by decide +kernel
theorem d_G_takeIn_8 : decode b_G_takeIn 8 = .ok (.aload_n 0, 1) := by decide +kernel
theorem d_G_takeIn_9 : decode b_G_takeIn 9 = .ok (.iload_n 2, 1) := by decide +kernel
theorem d_G_takeIn_10 : decode b_G_takeIn 10 = .ok (.invokevirtual 40, 3) := by decide +kernel
theorem d_G_takeIn_13 : decode b_G_takeIn 13 = .ok (.aload_n 0, 1) := by decide +kernel
theorem d_G_takeIn_14 : decode b_G_takeIn 14 = .ok (.dup, 1) := by decide +kernel
theorem d_G_takeIn_15 : decode b_G_takeIn 15 = .ok (.getfield 31, 3) := by decide +kernel
theorem d_G_takeIn_18 : decode b_G_takeIn 18 = .ok (.iconst 1, 1) := by decide +kernel
theorem d_G_takeIn_19 : decode b_G_takeIn 19 = .ok (.iload_n 1, 1) := by decide +kernel
theorem d_G_takeIn_20 : decode b_G_takeIn 20 = .ok (.ishl, 1) := by decide +kernel
theorem d_G_takeIn_21 : decode b_G_takeIn 21 = .ok (.ior, 1) := by decide +kernel
theorem d_G_takeIn_22 : decode b_G_takeIn 22 = .ok (.putfield 31, 3) := by decide +kernel
theorem d_G_takeIn_25 : decode b_G_takeIn 25 = .ok (.aload_n 0, 1) := by decide +kernel
theorem d_G_takeIn_26 : decode b_G_takeIn 26 = .ok (.dup, 1) := by decide +kernel
theorem d_G_takeIn_27 : decode b_G_takeIn 27 = .ok (.getfield 34, 3) := by decide +kernel
theorem d_G_takeIn_30 : decode b_G_takeIn 30 = .ok (.iconst 1, 1) := by decide +kernel
theorem d_G_takeIn_31 : decode b_G_takeIn 31 = .ok (.iload_n 1, 1) := by decide +kernel
theorem d_G_takeIn_32 : decode b_G_takeIn 32 = .ok (.ishl, 1) := by decide +kernel
theorem d_G_takeIn_33 : decode b_G_takeIn 33 = .ok (.ior, 1) := by decide +kernel
theorem d_G_takeIn_34 : decode b_G_takeIn 34 = .ok (.putfield 34, 3) := by decide +kernel
theorem d_G_takeIn_37 : decode b_G_takeIn 37 = .ok (.aload_n 0, 1) := by decide +kernel
theorem d_G_takeIn_38 : decode b_G_takeIn 38 = .ok (.getfield 15, 3) := by decide +kernel
theorem d_G_takeIn_41 : decode b_G_takeIn 41 = .ok (.iload_n 1, 1) := by decide +kernel
theorem d_G_takeIn_42 : decode b_G_takeIn 42 = .ok (.iload_n 2, 1) := by decide +kernel
theorem d_G_takeIn_43 : decode b_G_takeIn 43 = .ok (.iastore, 1) := by decide +kernel
theorem d_G_takeIn_44 : decode b_G_takeIn 44 = .ok (.return_, 1) := by decide +kernel
theorem d_G_mix_0 : decode b_G_mix 0 = .ok (.aload_n 0, 1) := by decide +kernel
theorem d_G_mix_1 : decode b_G_mix 1 = .ok (.iconst 1, 1) := by decide +kernel
theorem d_G_mix_2 : decode b_G_mix 2 = .ok (.putfield 9, 3) := by decide +kernel
theorem d_G_mix_5 : decode b_G_mix 5 = .ok (.aload_n 0, 1) := by decide +kernel
theorem d_G_mix_6 : decode b_G_mix 6 = .ok (.iconst 0, 1) := by decide +kernel
theorem d_G_mix_7 : decode b_G_mix 7 = .ok (.putfield 34, 3) := by decide +kernel
theorem d_G_mix_10 : decode b_G_mix 10 = .ok (.aload_n 0, 1) := by decide +kernel
theorem d_G_mix_11 : decode b_G_mix 11 = .ok (.iload_n 1, 1) := by decide +kernel
theorem d_G_mix_12 : decode b_G_mix 12 = .ok (.bipush 20, 2) := by decide +kernel
theorem d_G_mix_14 : decode b_G_mix 14 = .ok (.iadd, 1) := by decide +kernel
theorem d_G_mix_15 : decode b_G_mix 15 = .ok (.putfield 37, 3) := by decide +kernel
theorem d_G_mix_18 : decode b_G_mix 18 = .ok (.return_, 1) := by decide +kernel
theorem d_G_finishMixing_0 : decode b_G_finishMixing 0 = .ok (.aload_n 0, 1) := by decide +kernel
theorem d_G_finishMixing_1 : decode b_G_finishMixing 1 = .ok (.getfield 9, 3) := by decide +kernel
theorem d_G_finishMixing_4 : decode b_G_finishMixing 4 = .ok (.iconst 1, 1) := by decide +kernel
theorem d_G_finishMixing_5 : decode b_G_finishMixing 5 = .ok (.if_icmp .ne 22, 3) := by decide +kernel
theorem d_G_finishMixing_8 : decode b_G_finishMixing 8 = .ok (.aload_n 0, 1) := by decide +kernel
theorem d_G_finishMixing_9 : decode b_G_finishMixing 9 = .ok (.getfield 34, 3) := by decide +kernel
theorem d_G_finishMixing_12 : decode b_G_finishMixing 12 = .ok (.aload_n 0, 1) := by decide +kernel
theorem d_G_finishMixing_13 : decode b_G_finishMixing 13 = .ok (.getfield 31, 3) := by decide +kernel
theorem d_G_finishMixing_16 : decode b_G_finishMixing 16 = .ok (.if_icmp .eq 12, 3) := by decide +kernel
theorem d_G_finishMixing_19 : decode b_G_finishMixing 19 = .ok (.iload_n 1, 1) := by decide +kernel
theorem d_G_finishMixing_20 : decode b_G_finishMixing 20 = .ok (.aload_n 0, 1) := by decide +kernel
theorem d_G_finishMixing_21 : decode b_G_finishMixing 21 = .ok (.getfield 37, 3) := by decide +kernel
theorem d_G_finishMixing_24 : decode b_G_finishMixing 24 = .ok (.if_icmp .ge 4, 3) := by decide +kernel
theorem d_G_finishMixing_27 : decode b_G_finishMixing 27 = .ok (.return_, 1) := by decide +kernel
theorem d_G_finishMixing_28 : decode b_G_finishMixing 28 = .ok (.aload_n 0, 1) := by decide +kernel
theorem d_G_finishMixing_29 : decode b_G_finishMixing 29 = .ok (.getfield 34, 3) := by decide +kernel
theorem d_G_finishMixing_32 : decode b_G_finishMixing 32 = .ok (.ifCond .ne 8, 3) := by decide +kernel
theorem d_G_finishMixing_35 : decode b_G_finishMixing 35 = .ok (.aload_n 0, 1) := by decide +kernel
theorem d_G_finishMixing_36 : decode b_G_finishMixing 36 = .ok (.invokevirtual 44, 3) := by decide +kernel
theorem d_G_finishMixing_39 : decode b_G_finishMixing 39 = .ok (.return_, 1) := by decide +kernel
theorem d_G_finishMixing_40 : decode b_G_finishMixing 40 = .ok (.aload_n 2, 1) := by decide +kernel
theorem d_G_finishMixing_41 : decode b_G_finishMixing 41 = .ok (.invokevirtual 55, 3) := by decide +kernel
theorem d_G_finishMixing_44 : decode b_G_finishMixing 44 = .ok (.ifCond .eq 8, 3) := by decide +kernel
theorem d_G_finishMixing_47 : decode b_G_finishMixing 47 = .ok (.aload_n 0, 1) := by decide +kernel
theorem d_G_finishMixing_48 : decode b_G_finishMixing 48 = .ok (.iload_n 1, 1) := by decide +kernel
theorem d_G_finishMixing_49 : decode b_G_finishMixing 49 = .ok (.invokevirtual 61, 3) := by decide +kernel
theorem d_G_finishMixing_52 : decode b_G_finishMixing 52 = .ok (.return_, 1) := by decide +kernel
theorem d_N_write_0 : decode b_N_write 0 = .ok (.aload_n 0, 1) := by decide +kernel
theorem d_N_write_1 : decode b_N_write 1 = .ok (.getfield 9, 3) := by decide +kernel
theorem d_N_write_4 : decode b_N_write 4 = .ok (.iconst 1, 1) := by decide +kernel
theorem d_N_write_5 : decode b_N_write 5 = .ok (.if_icmp .ge 5, 3) := by decide +kernel
theorem d_N_write_8 : decode b_N_write 8 = .ok (.iconst 0, 1) := by decide +kernel
theorem d_N_write_9 : decode b_N_write 9 = .ok (.ireturn, 1) := by decide +kernel
theorem d_N_write_10 : decode b_N_write 10 = .ok (.aload_n 0, 1) := by decide +kernel
theorem d_N_write_11 : decode b_N_write 11 = .ok (.dup, 1) := by decide +kernel
theorem d_N_write_12 : decode b_N_write 12 = .ok (.getfield 9, 3) := by decide +kernel
theorem d_N_write_15 : decode b_N_write 15 = .ok (.iconst 1, 1) := by decide +kernel
theorem d_N_write_16 : decode b_N_write 16 = .ok (.isub, 1) := by decide +kernel
theorem d_N_write_17 : decode b_N_write 17 = .ok (.putfield 9, 3) := by decide +kernel
theorem d_N_write_20 : decode b_N_write 20 = .ok (.aload_n 0, 1) := by decide +kernel
theorem d_N_write_21 : decode b_N_write 21 = .ok (.dup, 1) := by decide +kernel
theorem d_N_write_22 : decode b_N_write 22 = .ok (.getfield 15, 3) := by decide +kernel
theorem d_N_write_25 : decode b_N_write 25 = .ok (.iconst 1, 1) := by decide +kernel
theorem d_N_write_26 : decode b_N_write 26 = .ok (.iadd, 1) := by decide +kernel
theorem d_N_write_27 : decode b_N_write 27 = .ok (.putfield 15, 3) := by decide +kernel
theorem d_N_write_30 : decode b_N_write 30 = .ok (.iconst 1, 1) := by decide +kernel
theorem d_N_write_31 : decode b_N_write 31 = .ok (.ireturn, 1) := by decide +kernel
theorem d_G_settle_0 : decode b_G_settle 0 = .ok (.aload_n 0, 1) := by decide +kernel
theorem d_G_settle_1 : decode b_G_settle 1 = .ok (.dup, 1) := by decide +kernel
theorem d_G_settle_2 : decode b_G_settle 2 = .ok (.getfield 64, 3) := by decide +kernel
theorem d_G_settle_5 : decode b_G_settle 5 = .ok (.iconst 1, 1) := by decide +kernel
theorem d_G_settle_6 : decode b_G_settle 6 = .ok (.iadd, 1) := by decide +kernel
theorem d_G_settle_7 : decode b_G_settle 7 = .ok (.putfield 64, 3) := by decide +kernel
theorem d_G_settle_10 : decode b_G_settle 10 = .ok (.aload_n 0, 1) := by decide +kernel
theorem d_G_settle_11 : decode b_G_settle 11 = .ok (.iconst 2, 1) := by decide +kernel
theorem d_G_settle_12 : decode b_G_settle 12 = .ok (.putfield 9, 3) := by decide +kernel
theorem d_G_settle_15 : decode b_G_settle 15 = .ok (.aload_n 0, 1) := by decide +kernel
theorem d_G_settle_16 : decode b_G_settle 16 = .ok (.aload_n 0, 1) := by decide +kernel
theorem d_G_settle_17 : decode b_G_settle 17 = .ok (.getfield 34, 3) := by decide +kernel
theorem d_G_settle_20 : decode b_G_settle 20 = .ok (.putfield 31, 3) := by decide +kernel
theorem d_G_settle_23 : decode b_G_settle 23 = .ok (.aload_n 0, 1) := by decide +kernel
theorem d_G_settle_24 : decode b_G_settle 24 = .ok (.getfield 15, 3) := by decide +kernel
theorem d_G_settle_27 : decode b_G_settle 27 = .ok (.iload_n 1, 1) := by decide +kernel
theorem d_G_settle_28 : decode b_G_settle 28 = .ok (.invokestatic 67, 3) := by decide +kernel
theorem d_G_settle_31 : decode b_G_settle 31 = .ok (.return_, 1) := by decide +kernel
theorem d_JA_fillI_0 : decode b_JA_fillI 0 = .ok (.iconst 0, 1) := by decide +kernel
theorem d_JA_fillI_1 : decode b_JA_fillI 1 = .ok (.istore_n 2, 1) := by decide +kernel
theorem d_JA_fillI_2 : decode b_JA_fillI 2 = .ok (.aload_n 0, 1) := by decide +kernel
theorem d_JA_fillI_3 : decode b_JA_fillI 3 = .ok (.arraylength, 1) := by decide +kernel
theorem d_JA_fillI_4 : decode b_JA_fillI 4 = .ok (.istore_n 3, 1) := by decide +kernel
theorem d_JA_fillI_5 : decode b_JA_fillI 5 = .ok (.iload_n 2, 1) := by decide +kernel
theorem d_JA_fillI_6 : decode b_JA_fillI 6 = .ok (.iload_n 3, 1) := by decide +kernel
theorem d_JA_fillI_7 : decode b_JA_fillI 7 = .ok (.if_icmp .ge 13, 3) := by decide +kernel
theorem d_JA_fillI_10 : decode b_JA_fillI 10 = .ok (.aload_n 0, 1) := by decide +kernel
theorem d_JA_fillI_11 : decode b_JA_fillI 11 = .ok (.iload_n 2, 1) := by decide +kernel
theorem d_JA_fillI_12 : decode b_JA_fillI 12 = .ok (.iload_n 1, 1) := by decide +kernel
theorem d_JA_fillI_13 : decode b_JA_fillI 13 = .ok (.iastore, 1) := by decide +kernel
theorem d_JA_fillI_14 : decode b_JA_fillI 14 = .ok (.iinc 2 1, 3) := by decide +kernel
theorem d_JA_fillI_17 : decode b_JA_fillI 17 = .ok (.goto (-12), 3) := by decide +kernel
theorem d_JA_fillI_20 : decode b_JA_fillI 20 = .ok (.return_, 1) := by decide +kernel
theorem d_D_leave_0 : decode b_D_leave 0 = .ok (.aload_n 0, 1) := by decide +kernel
theorem d_D_leave_1 : decode b_D_leave 1 = .ok (.iload_n 1, 1) := by decide +kernel
theorem d_D_leave_2 : decode b_D_leave 2 = .ok (.invokevirtual 36, 3) := by decide +kernel
theorem d_D_leave_5 : decode b_D_leave 5 = .ok (.astore_n 3, 1) := by decide +kernel
theorem d_D_leave_6 : decode b_D_leave 6 = .ok (.aload_n 0, 1) := by decide +kernel
theorem d_D_leave_7 : decode b_D_leave 7 = .ok (.iload_n 2, 1) := by decide +kernel
theorem d_D_leave_8 : decode b_D_leave 8 = .ok (.invokevirtual 40, 3) := by decide +kernel
theorem d_D_leave_11 : decode b_D_leave 11 = .ok (.aload_n 3, 1) := by decide +kernel
theorem d_D_leave_12 : decode b_D_leave 12 = .ok (.iload_n 2, 1) := by decide +kernel
theorem d_D_leave_13 : decode b_D_leave 13 = .ok (.invokevirtual 61, 3) := by decide +kernel
theorem d_D_leave_16 : decode b_D_leave 16 = .ok (.ifCond .ne 6, 3) := by decide +kernel
theorem d_D_leave_19 : decode b_D_leave 19 = .ok (.bipush (-8), 2) := by decide +kernel
theorem d_D_leave_21 : decode b_D_leave 21 = .ok (.ireturn, 1) := by decide +kernel
theorem d_D_leave_22 : decode b_D_leave 22 = .ok (.aload_n 3, 1) := by decide +kernel
theorem d_D_leave_23 : decode b_D_leave 23 = .ok (.iconst 1, 1) := by decide +kernel
theorem d_D_leave_24 : decode b_D_leave 24 = .ok (.iload_n 2, 1) := by decide +kernel
theorem d_D_leave_25 : decode b_D_leave 25 = .ok (.ishl, 1) := by decide +kernel
theorem d_D_leave_26 : decode b_D_leave 26 = .ok (.aload_n 0, 1) := by decide +kernel
theorem d_D_leave_27 : decode b_D_leave 27 = .ok (.getfield 44, 3) := by decide +kernel
theorem d_D_leave_30 : decode b_D_leave 30 = .ok (.invokevirtual 65, 3) := by decide +kernel
theorem d_D_leave_33 : decode b_D_leave 33 = .ok (.aload_n 3, 1) := by decide +kernel
theorem d_D_leave_34 : decode b_D_leave 34 = .ok (.aload_n 0, 1) := by decide +kernel
theorem d_D_leave_35 : decode b_D_leave 35 = .ok (.getfield 44, 3) := by decide +kernel
theorem d_D_leave_38 : decode b_D_leave 38 = .ok (.aload_n 0, 1) := by decide +kernel
theorem d_D_leave_39 : decode b_D_leave 39 = .ok (.getfield 25, 3) := by decide +kernel
theorem d_D_leave_42 : decode b_D_leave 42 = .ok (.invokevirtual 51, 3) := by decide +kernel
theorem d_D_leave_45 : decode b_D_leave 45 = .ok (.iconst 1, 1) := by decide +kernel
theorem d_D_leave_46 : decode b_D_leave 46 = .ok (.ireturn, 1) := by decide +kernel
theorem d_G_has_0 : decode b_G_has 0 = .ok (.aload_n 0, 1) := by decide +kernel
theorem d_G_has_1 : decode b_G_has 1 = .ok (.getfield 31, 3) := by decide +kernel
theorem d_G_has_4 : decode b_G_has 4 = .ok (.iconst 1, 1) := by decide +kernel
theorem d_G_has_5 : decode b_G_has 5 = .ok (.iload_n 1, 1) := by decide +kernel
theorem d_G_has_6 : decode b_G_has 6 = .ok (.ishl, 1) := by decide +kernel
theorem d_G_has_7 : decode b_G_has 7 = .ok (.iand, 1) := by decide +kernel
theorem d_G_has_8 : decode b_G_has 8 = .ok (.ifCond .eq 7, 3) := by decide +kernel
theorem d_G_has_11 : decode b_G_has 11 = .ok (.iconst 1, 1) := by decide +kernel
theorem d_G_has_12 : decode b_G_has 12 = .ok (.goto 4, 3) := by decide +kernel
theorem d_G_has_15 : decode b_G_has 15 = .ok (.iconst 0, 1) := by decide +kernel
theorem d_G_has_16 : decode b_G_has 16 = .ok (.ireturn, 1) := by decide +kernel
theorem d_G_putOut_0 : decode b_G_putOut 0 = .ok (.aload_n 0, 1) := by decide +kernel
theorem d_G_putOut_1 : decode b_G_putOut 1 = .ok (.dup, 1) := by decide +kernel
theorem d_G_putOut_2 : decode b_G_putOut 2 = .ok (.getfield 31, 3) := by decide +kernel
theorem d_G_putOut_5 : decode b_G_putOut 5 = .ok (.iload_n 1, 1) := by decide +kernel
theorem d_G_putOut_6 : decode b_G_putOut 6 = .ok (.iconst (-1), 1) := by decide +kernel
theorem d_G_putOut_7 : decode b_G_putOut 7 = .ok (.ixor, 1) := by decide +kernel
theorem d_G_putOut_8 : decode b_G_putOut 8 = .ok (.iand, 1) := by decide +kernel
theorem d_G_putOut_9 : decode b_G_putOut 9 = .ok (.putfield 31, 3) := by decide +kernel
theorem d_G_putOut_12 : decode b_G_putOut 12 = .ok (.aload_n 0, 1) := by decide +kernel
theorem d_G_putOut_13 : decode b_G_putOut 13 = .ok (.dup, 1) := by decide +kernel
theorem d_G_putOut_14 : decode b_G_putOut 14 = .ok (.getfield 34, 3) := by decide +kernel
theorem d_G_putOut_17 : decode b_G_putOut 17 = .ok (.iload_n 1, 1) := by decide +kernel
theorem d_G_putOut_18 : decode b_G_putOut 18 = .ok (.iconst (-1), 1) := by decide +kernel
theorem d_G_putOut_19 : decode b_G_putOut 19 = .ok (.ixor, 1) := by decide +kernel
theorem d_G_putOut_20 : decode b_G_putOut 20 = .ok (.iand, 1) := by decide +kernel
theorem d_G_putOut_21 : decode b_G_putOut 21 = .ok (.putfield 34, 3) := by decide +kernel
theorem d_G_putOut_24 : decode b_G_putOut 24 = .ok (.aload_n 0, 1) := by decide +kernel
theorem d_G_putOut_25 : decode b_G_putOut 25 = .ok (.getfield 31, 3) := by decide +kernel
theorem d_G_putOut_28 : decode b_G_putOut 28 = .ok (.ifCond .ne 10, 3) := by decide +kernel
theorem d_G_putOut_31 : decode b_G_putOut 31 = .ok (.aload_n 0, 1) := by decide +kernel
theorem d_G_putOut_32 : decode b_G_putOut 32 = .ok (.invokevirtual 44, 3) := by decide +kernel
theorem d_G_putOut_35 : decode b_G_putOut 35 = .ok (.goto 16, 3) := by decide +kernel
theorem d_G_putOut_38 : decode b_G_putOut 38 = .ok (.aload_n 0, 1) := by decide +kernel
theorem d_G_putOut_39 : decode b_G_putOut 39 = .ok (.getfield 9, 3) := by decide +kernel
theorem d_G_putOut_42 : decode b_G_putOut 42 = .ok (.iconst 2, 1) := by decide +kernel
theorem d_G_putOut_43 : decode b_G_putOut 43 = .ok (.if_icmp .ne 8, 3) := by decide +kernel
theorem d_G_putOut_46 : decode b_G_putOut 46 = .ok (.aload_n 0, 1) := by decide +kernel
theorem d_G_putOut_47 : decode b_G_putOut 47 = .ok (.iload_n 2, 1) := by decide +kernel
theorem d_G_putOut_48 : decode b_G_putOut 48 = .ok (.invokevirtual 40, 3) := by decide +kernel
theorem d_G_putOut_51 : decode b_G_putOut 51 = .ok (.return_, 1) := by decide +kernel
theorem d_D_beat_0 : decode b_D_beat 0 = .ok (.aload_n 0, 1) := by decide +kernel
theorem d_D_beat_1 : decode b_D_beat 1 = .ok (.iload_n 1, 1) := by decide +kernel
theorem d_D_beat_2 : decode b_D_beat 2 = .ok (.invokevirtual 36, 3) := by decide +kernel
theorem d_D_beat_5 : decode b_D_beat 5 = .ok (.astore 4, 2) := by decide +kernel
theorem d_D_beat_7 : decode b_D_beat 7 = .ok (.aload_n 0, 1) := by decide +kernel
theorem d_D_beat_8 : decode b_D_beat 8 = .ok (.iload_n 2, 1) := by decide +kernel
theorem d_D_beat_9 : decode b_D_beat 9 = .ok (.invokevirtual 40, 3) := by decide +kernel
theorem d_D_beat_12 : decode b_D_beat 12 = .ok (.aload 4, 2) := by decide +kernel
theorem d_D_beat_14 : decode b_D_beat 14 = .ok (.iload_n 2, 1) := by decide +kernel
theorem d_D_beat_15 : decode b_D_beat 15 = .ok (.invokevirtual 61, 3) := by decide +kernel
theorem d_D_beat_18 : decode b_D_beat 18 = .ok (.ifCond .ne 6, 3) := by decide +kernel
theorem d_D_beat_21 : decode b_D_beat 21 = .ok (.bipush (-8), 2) := by decide +kernel
theorem d_D_beat_23 : decode b_D_beat 23 = .ok (.ireturn, 1) := by decide +kernel
theorem d_D_beat_24 : decode b_D_beat 24 = .ok (.iload_n 3, 1) := by decide +kernel
theorem d_D_beat_25 : decode b_D_beat 25 = .ok (.aload 4, 2) := by decide +kernel
theorem d_D_beat_27 : decode b_D_beat 27 = .ok (.getfield 58, 3) := by decide +kernel
theorem d_D_beat_30 : decode b_D_beat 30 = .ok (.if_icmp .eq 6, 3) := by decide +kernel
theorem d_D_beat_33 : decode b_D_beat 33 = .ok (.bipush (-9), 2) := by decide +kernel
theorem d_D_beat_35 : decode b_D_beat 35 = .ok (.ireturn, 1) := by decide +kernel
theorem d_D_beat_36 : decode b_D_beat 36 = .ok (.aload 4, 2) := by decide +kernel
theorem d_D_beat_38 : decode b_D_beat 38 = .ok (.getfield 68, 3) := by decide +kernel
theorem d_D_beat_41 : decode b_D_beat 41 = .ok (.iload_n 2, 1) := by decide +kernel
theorem d_D_beat_42 : decode b_D_beat 42 = .ok (.aload_n 0, 1) := by decide +kernel
theorem d_D_beat_43 : decode b_D_beat 43 = .ok (.getfield 44, 3) := by decide +kernel
theorem d_D_beat_46 : decode b_D_beat 46 = .ok (.iastore, 1) := by decide +kernel
theorem d_D_beat_47 : decode b_D_beat 47 = .ok (.aload 4, 2) := by decide +kernel
theorem d_D_beat_49 : decode b_D_beat 49 = .ok (.iload_n 2, 1) := by decide +kernel
theorem d_D_beat_50 : decode b_D_beat 50 = .ok (.invokevirtual 72, 3) := by decide +kernel
theorem d_D_beat_53 : decode b_D_beat 53 = .ok (.ifCond .eq 7, 3) := by decide +kernel
theorem d_D_beat_56 : decode b_D_beat 56 = .ok (.iconst 0, 1) := by decide +kernel
theorem d_D_beat_57 : decode b_D_beat 57 = .ok (.goto 4, 3) := by decide +kernel
theorem d_D_beat_60 : decode b_D_beat 60 = .ok (.iconst 1, 1) := by decide +kernel
theorem d_D_beat_61 : decode b_D_beat 61 = .ok (.ireturn, 1) := by decide +kernel
theorem d_G_hasJoined_0 : decode b_G_hasJoined 0 = .ok (.aload_n 0, 1) := by decide +kernel
theorem d_G_hasJoined_1 : decode b_G_hasJoined 1 = .ok (.getfield 34, 3) := by decide +kernel
theorem d_G_hasJoined_4 : decode b_G_hasJoined 4 = .ok (.iconst 1, 1) := by decide +kernel
theorem d_G_hasJoined_5 : decode b_G_hasJoined 5 = .ok (.iload_n 1, 1) := by decide +kernel
theorem d_G_hasJoined_6 : decode b_G_hasJoined 6 = .ok (.ishl, 1) := by decide +kernel
theorem d_G_hasJoined_7 : decode b_G_hasJoined 7 = .ok (.iand, 1) := by decide +kernel
theorem d_G_hasJoined_8 : decode b_G_hasJoined 8 = .ok (.ifCond .eq 7, 3) := by decide +kernel
theorem d_G_hasJoined_11 : decode b_G_hasJoined 11 = .ok (.iconst 1, 1) := by decide +kernel
theorem d_G_hasJoined_12 : decode b_G_hasJoined 12 = .ok (.goto 4, 3) := by decide +kernel
theorem d_G_hasJoined_15 : decode b_G_hasJoined 15 = .ok (.iconst 0, 1) := by decide +kernel
theorem d_G_hasJoined_16 : decode b_G_hasJoined 16 = .ok (.ireturn, 1) := by decide +kernel
theorem d_D_commit_0 : decode b_D_commit 0 = .ok (.aload_n 0, 1) := by decide +kernel
theorem d_D_commit_1 : decode b_D_commit 1 = .ok (.iload_n 1, 1) := by decide +kernel
theorem d_D_commit_2 : decode b_D_commit 2 = .ok (.invokevirtual 36, 3) := by decide +kernel
theorem d_D_commit_5 : decode b_D_commit 5 = .ok (.astore 7, 2) := by decide +kernel
theorem d_D_commit_7 : decode b_D_commit 7 = .ok (.aload_n 0, 1) := by decide +kernel
theorem d_D_commit_8 : decode b_D_commit 8 = .ok (.iload_n 2, 1) := by decide +kernel
theorem d_D_commit_9 : decode b_D_commit 9 = .ok (.invokevirtual 40, 3) := by decide +kernel
theorem d_D_commit_12 : decode b_D_commit 12 = .ok (.aload_n 0, 1) := by decide +kernel
theorem d_D_commit_13 : decode b_D_commit 13 = .ok (.iload 4, 2) := by decide +kernel
theorem d_D_commit_15 : decode b_D_commit 15 = .ok (.invokevirtual 75, 3) := by decide +kernel
theorem d_D_commit_18 : decode b_D_commit 18 = .ok (.lload 5, 2) := by decide +kernel
theorem d_D_commit_20 : decode b_D_commit 20 = .ok (.lconst 0, 1) := by decide +kernel
theorem d_D_commit_21 : decode b_D_commit 21 = .ok (.lcmp, 1) := by decide +kernel
theorem d_D_commit_22 : decode b_D_commit 22 = .ok (.ifCond .ge 13, 3) := by decide +kernel
theorem d_D_commit_25 : decode b_D_commit 25 = .ok (.new 78, 3) := by decide +kernel
theorem d_D_commit_28 : decode b_D_commit 28 = .ok (.dup, 1) := by decide +kernel
theorem d_D_commit_29 : decode b_D_commit 29 = .ok (.ldc 80, 2) := by decide +kernel
theorem d_D_commit_31 : decode b_D_commit 31 = .ok (.invokespecial 82, 3) := by decide +kernel
theorem d_D_commit_34 : decode b_D_commit 34 = .ok (.athrow, 1) := by decide +kernel
theorem d_D_commit_35 : decode b_D_commit 35 = .ok (.aload 7, 2) := by decide +kernel
theorem d_D_commit_37 : decode b_D_commit 37 = .ok (.iload_n 2, 1) := by decide +kernel
theorem d_D_commit_38 : decode b_D_commit 38 = .ok (.iload_n 3, 1) := by decide +kernel
theorem d_D_commit_39 : decode b_D_commit 39 = .ok (.iload 4, 2) := by decide +kernel
theorem d_D_commit_41 : decode b_D_commit 41 = .ok (.invokevirtual 85, 3) := by decide +kernel
theorem d_D_commit_44 : decode b_D_commit 44 = .ok (.istore 8, 2) := by decide +kernel
theorem d_D_commit_46 : decode b_D_commit 46 = .ok (.iload 8, 2) := by decide +kernel
theorem d_D_commit_48 : decode b_D_commit 48 = .ok (.ifCond .eq 6, 3) := by decide +kernel
theorem d_D_commit_51 : decode b_D_commit 51 = .ok (.iload 8, 2) := by decide +kernel
theorem d_D_commit_53 : decode b_D_commit 53 = .ok (.ireturn, 1) := by decide +kernel
theorem d_D_commit_54 : decode b_D_commit 54 = .ok (.aload_n 0, 1) := by decide +kernel
theorem d_D_commit_55 : decode b_D_commit 55 = .ok (.getfield 25, 3) := by decide +kernel
theorem d_D_commit_58 : decode b_D_commit 58 = .ok (.invokevirtual 89, 3) := by decide +kernel
theorem d_D_commit_61 : decode b_D_commit 61 = .ok (.ifCond .ne 6, 3) := by decide +kernel
theorem d_D_commit_64 : decode b_D_commit 64 = .ok (.bipush (-2), 2) := by decide +kernel
theorem d_D_commit_66 : decode b_D_commit 66 = .ok (.ireturn, 1) := by decide +kernel
theorem d_D_commit_67 : decode b_D_commit 67 = .ok (.aload 7, 2) := by decide +kernel
theorem d_D_commit_69 : decode b_D_commit 69 = .ok (.getfield 93, 3) := by decide +kernel
theorem d_D_commit_72 : decode b_D_commit 72 = .ok (.iload 4, 2) := by decide +kernel
theorem d_D_commit_74 : decode b_D_commit 74 = .ok (.lload 5, 2) := by decide +kernel
theorem d_D_commit_76 : decode b_D_commit 76 = .ok (.lastore, 1) := by decide +kernel
theorem d_D_commit_77 : decode b_D_commit 77 = .ok (.aload 7, 2) := by decide +kernel
theorem d_D_commit_79 : decode b_D_commit 79 = .ok (.getfield 68, 3) := by decide +kernel
theorem d_D_commit_82 : decode b_D_commit 82 = .ok (.iload_n 2, 1) := by decide +kernel
theorem d_D_commit_83 : decode b_D_commit 83 = .ok (.aload_n 0, 1) := by decide +kernel
theorem d_D_commit_84 : decode b_D_commit 84 = .ok (.getfield 44, 3) := by decide +kernel
theorem d_D_commit_87 : decode b_D_commit 87 = .ok (.iastore, 1) := by decide +kernel
theorem d_D_commit_88 : decode b_D_commit 88 = .ok (.iconst 0, 1) := by decide +kernel
theorem d_D_commit_89 : decode b_D_commit 89 = .ok (.ireturn, 1) := by decide +kernel
theorem d_D_checkLog_0 : decode b_D_checkLog 0 = .ok (.iload_n 1, 1) := by decide +kernel
theorem d_D_checkLog_1 : decode b_D_checkLog 1 = .ok (.ifCond .lt 11, 3) := by decide +kernel
theorem d_D_checkLog_4 : decode b_D_checkLog 4 = .ok (.iload_n 1, 1) := by decide +kernel
theorem d_D_checkLog_5 : decode b_D_checkLog 5 = .ok (.aload_n 0, 1) := by decide +kernel
theorem d_D_checkLog_6 : decode b_D_checkLog 6 = .ok (.getfield 18, 3) := by decide +kernel
theorem d_D_checkLog_9 : decode b_D_checkLog 9 = .ok (.if_icmp .lt 13, 3) := by decide +kernel
theorem d_D_checkLog_12 : decode b_D_checkLog 12 = .ok (.new 78, 3) := by decide +kernel
theorem d_D_checkLog_15 : decode b_D_checkLog 15 = .ok (.dup, 1) := by decide +kernel
theorem d_D_checkLog_16 : decode b_D_checkLog 16 = .ok (.ldc 145, 2) := by decide +kernel
theorem d_D_checkLog_18 : decode b_D_checkLog 18 = .ok (.invokespecial 82, 3) := by decide +kernel
theorem d_D_checkLog_21 : decode b_D_checkLog 21 = .ok (.athrow, 1) := by decide +kernel
theorem d_D_checkLog_22 : decode b_D_checkLog 22 = .ok (.return_, 1) := by decide +kernel
theorem d_G_refusalOf_0 : decode b_G_refusalOf 0 = .ok (.aload_n 0, 1) := by decide +kernel
theorem d_G_refusalOf_1 : decode b_G_refusalOf 1 = .ok (.iload_n 1, 1) := by decide +kernel
theorem d_G_refusalOf_2 : decode b_G_refusalOf 2 = .ok (.invokevirtual 47, 3) := by decide +kernel
theorem d_G_refusalOf_5 : decode b_G_refusalOf 5 = .ok (.ifCond .ne 6, 3) := by decide +kernel
theorem d_G_refusalOf_8 : decode b_G_refusalOf 8 = .ok (.bipush (-8), 2) := by decide +kernel
theorem d_G_refusalOf_10 : decode b_G_refusalOf 10 = .ok (.ireturn, 1) := by decide +kernel
theorem d_G_refusalOf_11 : decode b_G_refusalOf 11 = .ok (.iload_n 2, 1) := by decide +kernel
theorem d_G_refusalOf_12 : decode b_G_refusalOf 12 = .ok (.aload_n 0, 1) := by decide +kernel
theorem d_G_refusalOf_13 : decode b_G_refusalOf 13 = .ok (.getfield 64, 3) := by decide +kernel
theorem d_G_refusalOf_16 : decode b_G_refusalOf 16 = .ok (.if_icmp .eq 6, 3) := by decide +kernel
theorem d_G_refusalOf_19 : decode b_G_refusalOf 19 = .ok (.bipush (-9), 2) := by decide +kernel
theorem d_G_refusalOf_21 : decode b_G_refusalOf 21 = .ok (.ireturn, 1) := by decide +kernel
theorem d_G_refusalOf_22 : decode b_G_refusalOf 22 = .ok (.aload_n 0, 1) := by decide +kernel
theorem d_G_refusalOf_23 : decode b_G_refusalOf 23 = .ok (.getfield 9, 3) := by decide +kernel
theorem d_G_refusalOf_26 : decode b_G_refusalOf 26 = .ok (.iconst 2, 1) := by decide +kernel
theorem d_G_refusalOf_27 : decode b_G_refusalOf 27 = .ok (.if_icmp .eq 6, 3) := by decide +kernel
theorem d_G_refusalOf_30 : decode b_G_refusalOf 30 = .ok (.bipush (-10), 2) := by decide +kernel
theorem d_G_refusalOf_32 : decode b_G_refusalOf 32 = .ok (.ireturn, 1) := by decide +kernel
theorem d_G_refusalOf_33 : decode b_G_refusalOf 33 = .ok (.aload_n 0, 1) := by decide +kernel
theorem d_G_refusalOf_34 : decode b_G_refusalOf 34 = .ok (.iload_n 3, 1) := by decide +kernel
theorem d_G_refusalOf_35 : decode b_G_refusalOf 35 = .ok (.iload_n 1, 1) := by decide +kernel
theorem d_G_refusalOf_36 : decode b_G_refusalOf 36 = .ok (.invokevirtual 82, 3) := by decide +kernel
theorem d_G_refusalOf_39 : decode b_G_refusalOf 39 = .ok (.ifCond .eq 7, 3) := by decide +kernel
theorem d_G_refusalOf_42 : decode b_G_refusalOf 42 = .ok (.iconst 0, 1) := by decide +kernel
theorem d_G_refusalOf_43 : decode b_G_refusalOf 43 = .ok (.goto 5, 3) := by decide +kernel
theorem d_G_refusalOf_46 : decode b_G_refusalOf 46 = .ok (.bipush (-11), 2) := by decide +kernel
theorem d_G_refusalOf_48 : decode b_G_refusalOf 48 = .ok (.ireturn, 1) := by decide +kernel
theorem d_G_gives_0 : decode b_G_gives 0 = .ok (.aload_n 0, 1) := by decide +kernel
theorem d_G_gives_1 : decode b_G_gives 1 = .ok (.getfield 31, 3) := by decide +kernel
theorem d_G_gives_4 : decode b_G_gives 4 = .ok (.invokestatic 76, 3) := by decide +kernel
theorem d_G_gives_7 : decode b_G_gives 7 = .ok (.istore_n 3, 1) := by decide +kernel
theorem d_G_gives_8 : decode b_G_gives 8 = .ok (.aload_n 0, 1) := by decide +kernel
theorem d_G_gives_9 : decode b_G_gives 9 = .ok (.getfield 9, 3) := by decide +kernel
theorem d_G_gives_12 : decode b_G_gives 12 = .ok (.iconst 2, 1) := by decide +kernel
theorem d_G_gives_13 : decode b_G_gives 13 = .ok (.if_icmp .ne 15, 3) := by decide +kernel
theorem d_G_gives_16 : decode b_G_gives 16 = .ok (.aload_n 0, 1) := by decide +kernel
theorem d_G_gives_17 : decode b_G_gives 17 = .ok (.iload_n 2, 1) := by decide +kernel
theorem d_G_gives_18 : decode b_G_gives 18 = .ok (.invokevirtual 47, 3) := by decide +kernel
theorem d_G_gives_21 : decode b_G_gives 21 = .ok (.ifCond .eq 7, 3) := by decide +kernel
theorem d_G_gives_24 : decode b_G_gives 24 = .ok (.iload_n 3, 1) := by decide +kernel
theorem d_G_gives_25 : decode b_G_gives 25 = .ok (.ifCond .ne 5, 3) := by decide +kernel
theorem d_G_gives_28 : decode b_G_gives 28 = .ok (.iconst 0, 1) := by decide +kernel
theorem d_G_gives_29 : decode b_G_gives 29 = .ok (.ireturn, 1) := by decide +kernel
theorem d_G_gives_30 : decode b_G_gives 30 = .ok (.aload_n 0, 1) := by decide +kernel
theorem d_G_gives_31 : decode b_G_gives 31 = .ok (.getfield 31, 3) := by decide +kernel
theorem d_G_gives_34 : decode b_G_gives 34 = .ok (.iconst 1, 1) := by decide +kernel
theorem d_G_gives_35 : decode b_G_gives 35 = .ok (.iload_n 2, 1) := by decide +kernel
theorem d_G_gives_36 : decode b_G_gives 36 = .ok (.ishl, 1) := by decide +kernel
theorem d_G_gives_37 : decode b_G_gives 37 = .ok (.iconst 1, 1) := by decide +kernel
theorem d_G_gives_38 : decode b_G_gives 38 = .ok (.isub, 1) := by decide +kernel
theorem d_G_gives_39 : decode b_G_gives 39 = .ok (.iand, 1) := by decide +kernel
theorem d_G_gives_40 : decode b_G_gives 40 = .ok (.invokestatic 76, 3) := by decide +kernel
theorem d_G_gives_43 : decode b_G_gives 43 = .ok (.istore 4, 2) := by decide +kernel
theorem d_G_gives_45 : decode b_G_gives 45 = .ok (.iload_n 1, 1) := by decide +kernel
theorem d_G_gives_46 : decode b_G_gives 46 = .ok (.iload_n 3, 1) := by decide +kernel
theorem d_G_gives_47 : decode b_G_gives 47 = .ok (.irem, 1) := by decide +kernel
theorem d_G_gives_48 : decode b_G_gives 48 = .ok (.iload 4, 2) := by decide +kernel
theorem d_G_gives_50 : decode b_G_gives 50 = .ok (.if_icmp .ne 7, 3) := by decide +kernel
theorem d_G_gives_53 : decode b_G_gives 53 = .ok (.iconst 1, 1) := by decide +kernel
theorem d_G_gives_54 : decode b_G_gives 54 = .ok (.goto 4, 3) := by decide +kernel
theorem d_G_gives_57 : decode b_G_gives 57 = .ok (.iconst 0, 1) := by decide +kernel
theorem d_G_gives_58 : decode b_G_gives 58 = .ok (.ireturn, 1) := by decide +kernel
theorem d_D_committed_0 : decode b_D_committed 0 = .ok (.aload_n 0, 1) := by decide +kernel
theorem d_D_committed_1 : decode b_D_committed 1 = .ok (.iload_n 1, 1) := by decide +kernel
theorem d_D_committed_2 : decode b_D_committed 2 = .ok (.invokevirtual 36, 3) := by decide +kernel
theorem d_D_committed_5 : decode b_D_committed 5 = .ok (.astore_n 3, 1) := by decide +kernel
theorem d_D_committed_6 : decode b_D_committed 6 = .ok (.aload_n 0, 1) := by decide +kernel
theorem d_D_committed_7 : decode b_D_committed 7 = .ok (.iload_n 2, 1) := by decide +kernel
theorem d_D_committed_8 : decode b_D_committed 8 = .ok (.invokevirtual 75, 3) := by decide +kernel
theorem d_D_committed_11 : decode b_D_committed 11 = .ok (.aload_n 3, 1) := by decide +kernel
theorem d_D_committed_12 : decode b_D_committed 12 = .ok (.getfield 93, 3) := by decide +kernel
theorem d_D_committed_15 : decode b_D_committed 15 = .ok (.iload_n 2, 1) := by decide +kernel
theorem d_D_committed_16 : decode b_D_committed 16 = .ok (.laload, 1) := by decide +kernel
theorem d_D_committed_17 : decode b_D_committed 17 = .ok (.lreturn, 1) := by decide +kernel
theorem d_D_group_0 : decode b_D_group 0 = .ok (.aload_n 0, 1) := by decide +kernel
theorem d_D_group_1 : decode b_D_group 1 = .ok (.iload_n 1, 1) := by decide +kernel
theorem d_D_group_2 : decode b_D_group 2 = .ok (.invokevirtual 36, 3) := by decide +kernel
theorem d_D_group_5 : decode b_D_group 5 = .ok (.astore_n 3, 1) := by decide +kernel
theorem d_D_group_6 : decode b_D_group 6 = .ok (.iload_n 2, 1) := by decide +kernel
theorem d_D_group_7 : decode b_D_group 7 = .ok (.tableswitch 62 0 4 #[33, 38, 43, 48, 53], 33) := by decide +kernel
theorem d_D_group_40 : decode b_D_group 40 = .ok (.aload_n 3, 1) := by decide +kernel
theorem d_D_group_41 : decode b_D_group 41 = .ok (.getfield 58, 3) := by decide +kernel
theorem d_D_group_44 : decode b_D_group 44 = .ok (.ireturn, 1) := by decide +kernel
theorem d_D_group_45 : decode b_D_group 45 = .ok (.aload_n 3, 1) := by decide +kernel
theorem d_D_group_46 : decode b_D_group 46 = .ok (.getfield 55, 3) := by decide +kernel
theorem d_D_group_49 : decode b_D_group 49 = .ok (.ireturn, 1) := by decide +kernel
theorem d_D_group_50 : decode b_D_group 50 = .ok (.aload_n 3, 1) := by decide +kernel
theorem d_D_group_51 : decode b_D_group 51 = .ok (.getfield 97, 3) := by decide +kernel
theorem d_D_group_54 : decode b_D_group 54 = .ok (.ireturn, 1) := by decide +kernel
theorem d_D_group_55 : decode b_D_group 55 = .ok (.aload_n 3, 1) := by decide +kernel
theorem d_D_group_56 : decode b_D_group 56 = .ok (.getfield 100, 3) := by decide +kernel
theorem d_D_group_59 : decode b_D_group 59 = .ok (.ireturn, 1) := by decide +kernel
theorem d_D_group_60 : decode b_D_group 60 = .ok (.aload_n 3, 1) := by decide +kernel
theorem d_D_group_61 : decode b_D_group 61 = .ok (.aload_n 0, 1) := by decide +kernel
theorem d_D_group_62 : decode b_D_group 62 = .ok (.getfield 44, 3) := by decide +kernel
theorem d_D_group_65 : decode b_D_group 65 = .ok (.invokevirtual 103, 3) := by decide +kernel
theorem d_D_group_68 : decode b_D_group 68 = .ok (.ireturn, 1) := by decide +kernel
theorem d_D_group_69 : decode b_D_group 69 = .ok (.new 78, 3) := by decide +kernel
theorem d_D_group_72 : decode b_D_group 72 = .ok (.dup, 1) := by decide +kernel
theorem d_D_group_73 : decode b_D_group 73 = .ok (.ldc 107, 2) := by decide +kernel
theorem d_D_group_75 : decode b_D_group 75 = .ok (.invokespecial 82, 3) := by decide +kernel
theorem d_D_group_78 : decode b_D_group 78 = .ok (.athrow, 1) := by decide +kernel
theorem d_G_ticksToLimit_0 : decode b_G_ticksToLimit 0 = .ok (.aload_n 0, 1) := by decide +kernel
theorem d_G_ticksToLimit_1 : decode b_G_ticksToLimit 1 = .ok (.getfield 9, 3) := by decide +kernel
theorem d_G_ticksToLimit_4 : decode b_G_ticksToLimit 4 = .ok (.iconst 1, 1) := by decide +kernel
theorem d_G_ticksToLimit_5 : decode b_G_ticksToLimit 5 = .ok (.if_icmp .ne 16, 3) := by decide +kernel
theorem d_G_ticksToLimit_8 : decode b_G_ticksToLimit 8 = .ok (.aload_n 0, 1) := by decide +kernel
theorem d_G_ticksToLimit_9 : decode b_G_ticksToLimit 9 = .ok (.getfield 37, 3) := by decide +kernel
theorem d_G_ticksToLimit_12 : decode b_G_ticksToLimit 12 = .ok (.iload_n 1, 1) := by decide +kernel
theorem d_G_ticksToLimit_13 : decode b_G_ticksToLimit 13 = .ok (.isub, 1) := by decide +kernel
theorem d_G_ticksToLimit_14 : decode b_G_ticksToLimit 14 = .ok (.iconst 0, 1) := by decide +kernel
theorem d_G_ticksToLimit_15 : decode b_G_ticksToLimit 15 = .ok (.invokestatic 70, 3) := by decide +kernel
theorem d_G_ticksToLimit_18 : decode b_G_ticksToLimit 18 = .ok (.goto 4, 3) := by decide +kernel
theorem d_G_ticksToLimit_21 : decode b_G_ticksToLimit 21 = .ok (.iconst 0, 1) := by decide +kernel
theorem d_G_ticksToLimit_22 : decode b_G_ticksToLimit 22 = .ok (.ireturn, 1) := by decide +kernel
theorem d_D_share_0 : decode b_D_share 0 = .ok (.aload_n 0, 1) := by decide +kernel
theorem d_D_share_1 : decode b_D_share 1 = .ok (.iload_n 1, 1) := by decide +kernel
theorem d_D_share_2 : decode b_D_share 2 = .ok (.invokevirtual 36, 3) := by decide +kernel
theorem d_D_share_5 : decode b_D_share 5 = .ok (.astore_n 3, 1) := by decide +kernel
theorem d_D_share_6 : decode b_D_share 6 = .ok (.aload_n 0, 1) := by decide +kernel
theorem d_D_share_7 : decode b_D_share 7 = .ok (.iload_n 2, 1) := by decide +kernel
theorem d_D_share_8 : decode b_D_share 8 = .ok (.invokevirtual 40, 3) := by decide +kernel
theorem d_D_share_11 : decode b_D_share 11 = .ok (.iconst 0, 1) := by decide +kernel
theorem d_D_share_12 : decode b_D_share 12 = .ok (.istore 4, 2) := by decide +kernel
theorem d_D_share_14 : decode b_D_share 14 = .ok (.iconst 0, 1) := by decide +kernel
theorem d_D_share_15 : decode b_D_share 15 = .ok (.istore 5, 2) := by decide +kernel
theorem d_D_share_17 : decode b_D_share 17 = .ok (.iload 5, 2) := by decide +kernel
theorem d_D_share_19 : decode b_D_share 19 = .ok (.aload_n 0, 1) := by decide +kernel
theorem d_D_share_20 : decode b_D_share 20 = .ok (.getfield 18, 3) := by decide +kernel
theorem d_D_share_23 : decode b_D_share 23 = .ok (.if_icmp .ge 28, 3) := by decide +kernel
theorem d_D_share_26 : decode b_D_share 26 = .ok (.aload_n 3, 1) := by decide +kernel
theorem d_D_share_27 : decode b_D_share 27 = .ok (.iload 5, 2) := by decide +kernel
theorem d_D_share_29 : decode b_D_share 29 = .ok (.iload_n 2, 1) := by decide +kernel
theorem d_D_share_30 : decode b_D_share 30 = .ok (.invokevirtual 109, 3) := by decide +kernel
theorem d_D_share_33 : decode b_D_share 33 = .ok (.ifCond .eq 12, 3) := by decide +kernel
theorem d_D_share_36 : decode b_D_share 36 = .ok (.iload 4, 2) := by decide +kernel
theorem d_D_share_38 : decode b_D_share 38 = .ok (.iconst 1, 1) := by decide +kernel
theorem d_D_share_39 : decode b_D_share 39 = .ok (.iload 5, 2) := by decide +kernel
theorem d_D_share_41 : decode b_D_share 41 = .ok (.ishl, 1) := by decide +kernel
theorem d_D_share_42 : decode b_D_share 42 = .ok (.ior, 1) := by decide +kernel
theorem d_D_share_43 : decode b_D_share 43 = .ok (.istore 4, 2) := by decide +kernel
theorem d_D_share_45 : decode b_D_share 45 = .ok (.iinc 5 1, 3) := by decide +kernel
theorem d_D_share_48 : decode b_D_share 48 = .ok (.goto (-31), 3) := by decide +kernel
theorem d_D_share_51 : decode b_D_share 51 = .ok (.iload 4, 2) := by decide +kernel
theorem d_D_share_53 : decode b_D_share 53 = .ok (.ireturn, 1) := by decide +kernel
theorem d_D_room_0 : decode b_D_room 0 = .ok (.iload_n 1, 1) := by decide +kernel
theorem d_D_room_1 : decode b_D_room 1 = .ok (.ifCond .lt 9, 3) := by decide +kernel
theorem d_D_room_4 : decode b_D_room 4 = .ok (.iload_n 1, 1) := by decide +kernel
theorem d_D_room_5 : decode b_D_room 5 = .ok (.ldc 113, 2) := by decide +kernel
theorem d_D_room_7 : decode b_D_room 7 = .ok (.if_icmp .le 13, 3) := by decide +kernel
theorem d_D_room_10 : decode b_D_room 10 = .ok (.new 78, 3) := by decide +kernel
theorem d_D_room_13 : decode b_D_room 13 = .ok (.dup, 1) := by decide +kernel
theorem d_D_room_14 : decode b_D_room 14 = .ok (.ldc 114, 2) := by decide +kernel
theorem d_D_room_16 : decode b_D_room 16 = .ok (.invokespecial 82, 3) := by decide +kernel
theorem d_D_room_19 : decode b_D_room 19 = .ok (.athrow, 1) := by decide +kernel
theorem d_D_room_20 : decode b_D_room 20 = .ok (.aload_n 0, 1) := by decide +kernel
theorem d_D_room_21 : decode b_D_room 21 = .ok (.getfield 25, 3) := by decide +kernel
theorem d_D_room_24 : decode b_D_room 24 = .ok (.getfield 116, 3) := by decide +kernel
theorem d_D_room_27 : decode b_D_room 27 = .ok (.istore_n 2, 1) := by decide +kernel
theorem d_D_room_28 : decode b_D_room 28 = .ok (.aload_n 0, 1) := by decide +kernel
theorem d_D_room_29 : decode b_D_room 29 = .ok (.getfield 25, 3) := by decide +kernel
theorem d_D_room_32 : decode b_D_room 32 = .ok (.iload_n 1, 1) := by decide +kernel
theorem d_D_room_33 : decode b_D_room 33 = .ok (.putfield 116, 3) := by decide +kernel
theorem d_D_room_36 : decode b_D_room 36 = .ok (.iload_n 2, 1) := by decide +kernel
theorem d_D_room_37 : decode b_D_room 37 = .ok (.ireturn, 1) := by decide +kernel
theorem d_D_ticks_0 : decode b_D_ticks 0 = .ok (.iload_n 1, 1) := by decide +kernel
theorem d_D_ticks_1 : decode b_D_ticks 1 = .ok (.iconst 1, 1) := by decide +kernel
theorem d_D_ticks_2 : decode b_D_ticks 2 = .ok (.if_icmp .lt 10, 3) := by decide +kernel
theorem d_D_ticks_5 : decode b_D_ticks 5 = .ok (.iload_n 1, 1) := by decide +kernel
theorem d_D_ticks_6 : decode b_D_ticks 6 = .ok (.sipush 200, 3) := by decide +kernel
theorem d_D_ticks_9 : decode b_D_ticks 9 = .ok (.if_icmp .le 13, 3) := by decide +kernel
theorem d_D_ticks_12 : decode b_D_ticks 12 = .ok (.new 78, 3) := by decide +kernel
theorem d_D_ticks_15 : decode b_D_ticks 15 = .ok (.dup, 1) := by decide +kernel
theorem d_D_ticks_16 : decode b_D_ticks 16 = .ok (.ldc 127, 2) := by decide +kernel
theorem d_D_ticks_18 : decode b_D_ticks 18 = .ok (.invokespecial 82, 3) := by decide +kernel
theorem d_D_ticks_21 : decode b_D_ticks 21 = .ok (.athrow, 1) := by decide +kernel
theorem d_D_ticks_22 : decode b_D_ticks 22 = .ok (.aload_n 0, 1) := by decide +kernel
theorem d_D_ticks_23 : decode b_D_ticks 23 = .ok (.getfield 44, 3) := by decide +kernel
theorem d_D_ticks_26 : decode b_D_ticks 26 = .ok (.iload_n 1, 1) := by decide +kernel
theorem d_D_ticks_27 : decode b_D_ticks 27 = .ok (.iadd, 1) := by decide +kernel
theorem d_D_ticks_28 : decode b_D_ticks 28 = .ok (.ldc 129, 2) := by decide +kernel
theorem d_D_ticks_30 : decode b_D_ticks 30 = .ok (.if_icmp .le 13, 3) := by decide +kernel
theorem d_D_ticks_33 : decode b_D_ticks 33 = .ok (.new 78, 3) := by decide +kernel
theorem d_D_ticks_36 : decode b_D_ticks 36 = .ok (.dup, 1) := by decide +kernel
theorem d_D_ticks_37 : decode b_D_ticks 37 = .ok (.ldc 130, 2) := by decide +kernel
theorem d_D_ticks_39 : decode b_D_ticks 39 = .ok (.invokespecial 82, 3) := by decide +kernel
theorem d_D_ticks_42 : decode b_D_ticks 42 = .ok (.athrow, 1) := by decide +kernel
theorem d_D_ticks_43 : decode b_D_ticks 43 = .ok (.iconst 0, 1) := by decide +kernel
theorem d_D_ticks_44 : decode b_D_ticks 44 = .ok (.istore_n 2, 1) := by decide +kernel
theorem d_D_ticks_45 : decode b_D_ticks 45 = .ok (.iload_n 2, 1) := by decide +kernel
theorem d_D_ticks_46 : decode b_D_ticks 46 = .ok (.iload_n 1, 1) := by decide +kernel
theorem d_D_ticks_47 : decode b_D_ticks 47 = .ok (.if_icmp .ge 13, 3) := by decide +kernel
theorem d_D_ticks_50 : decode b_D_ticks 50 = .ok (.aload_n 0, 1) := by decide +kernel
theorem d_D_ticks_51 : decode b_D_ticks 51 = .ok (.invokevirtual 132, 3) := by decide +kernel
theorem d_D_ticks_54 : decode b_D_ticks 54 = .ok (.iinc 2 1, 3) := by decide +kernel
theorem d_D_ticks_57 : decode b_D_ticks 57 = .ok (.goto (-12), 3) := by decide +kernel
theorem d_D_ticks_60 : decode b_D_ticks 60 = .ok (.aload_n 0, 1) := by decide +kernel
theorem d_D_ticks_61 : decode b_D_ticks 61 = .ok (.getfield 44, 3) := by decide +kernel
theorem d_D_ticks_64 : decode b_D_ticks 64 = .ok (.ireturn, 1) := by decide +kernel
theorem d_D_tick_0 : decode b_D_tick 0 = .ok (.aload_n 0, 1) := by decide +kernel
theorem d_D_tick_1 : decode b_D_tick 1 = .ok (.dup, 1) := by decide +kernel
theorem d_D_tick_2 : decode b_D_tick 2 = .ok (.getfield 44, 3) := by decide +kernel
theorem d_D_tick_5 : decode b_D_tick 5 = .ok (.iconst 1, 1) := by decide +kernel
theorem d_D_tick_6 : decode b_D_tick 6 = .ok (.iadd, 1) := by decide +kernel
theorem d_D_tick_7 : decode b_D_tick 7 = .ok (.putfield 44, 3) := by decide +kernel
theorem d_D_tick_10 : decode b_D_tick 10 = .ok (.iconst 0, 1) := by decide +kernel
theorem d_D_tick_11 : decode b_D_tick 11 = .ok (.istore_n 1, 1) := by decide +kernel
theorem d_D_tick_12 : decode b_D_tick 12 = .ok (.iload_n 1, 1) := by decide +kernel
theorem d_D_tick_13 : decode b_D_tick 13 = .ok (.bipush 8, 2) := by decide +kernel
theorem d_D_tick_15 : decode b_D_tick 15 = .ok (.if_icmp .ge 39, 3) := by decide +kernel
theorem d_D_tick_18 : decode b_D_tick 18 = .ok (.aload_n 0, 1) := by decide +kernel
theorem d_D_tick_19 : decode b_D_tick 19 = .ok (.getfield 31, 3) := by decide +kernel
theorem d_D_tick_22 : decode b_D_tick 22 = .ok (.iload_n 1, 1) := by decide +kernel
theorem d_D_tick_23 : decode b_D_tick 23 = .ok (.aaload, 1) := by decide +kernel
theorem d_D_tick_24 : decode b_D_tick 24 = .ok (.aload_n 0, 1) := by decide +kernel
theorem d_D_tick_25 : decode b_D_tick 25 = .ok (.getfield 44, 3) := by decide +kernel
theorem d_D_tick_28 : decode b_D_tick 28 = .ok (.invokevirtual 138, 3) := by decide +kernel
theorem d_D_tick_31 : decode b_D_tick 31 = .ok (.aload_n 0, 1) := by decide +kernel
theorem d_D_tick_32 : decode b_D_tick 32 = .ok (.getfield 31, 3) := by decide +kernel
theorem d_D_tick_35 : decode b_D_tick 35 = .ok (.iload_n 1, 1) := by decide +kernel
theorem d_D_tick_36 : decode b_D_tick 36 = .ok (.aaload, 1) := by decide +kernel
theorem d_D_tick_37 : decode b_D_tick 37 = .ok (.aload_n 0, 1) := by decide +kernel
theorem d_D_tick_38 : decode b_D_tick 38 = .ok (.getfield 44, 3) := by decide +kernel
theorem d_D_tick_41 : decode b_D_tick 41 = .ok (.aload_n 0, 1) := by decide +kernel
theorem d_D_tick_42 : decode b_D_tick 42 = .ok (.getfield 25, 3) := by decide +kernel
theorem d_D_tick_45 : decode b_D_tick 45 = .ok (.invokevirtual 51, 3) := by decide +kernel
theorem d_D_tick_48 : decode b_D_tick 48 = .ok (.iinc 1 1, 3) := by decide +kernel
theorem d_D_tick_51 : decode b_D_tick 51 = .ok (.goto (-39), 3) := by decide +kernel
theorem d_D_tick_54 : decode b_D_tick 54 = .ok (.return_, 1) := by decide +kernel
theorem d_G_dropSilent_0 : decode b_G_dropSilent 0 = .ok (.aload_n 0, 1) := by decide +kernel
theorem d_G_dropSilent_1 : decode b_G_dropSilent 1 = .ok (.getfield 9, 3) := by decide +kernel
theorem d_G_dropSilent_4 : decode b_G_dropSilent 4 = .ok (.iconst 2, 1) := by decide +kernel
theorem d_G_dropSilent_5 : decode b_G_dropSilent 5 = .ok (.if_icmp .eq 4, 3) := by decide +kernel
theorem d_G_dropSilent_8 : decode b_G_dropSilent 8 = .ok (.return_, 1) := by decide +kernel
theorem d_G_dropSilent_9 : decode b_G_dropSilent 9 = .ok (.iconst 0, 1) := by decide +kernel
theorem d_G_dropSilent_10 : decode b_G_dropSilent 10 = .ok (.istore_n 2, 1) := by decide +kernel
theorem d_G_dropSilent_11 : decode b_G_dropSilent 11 = .ok (.iconst 0, 1) := by decide +kernel
theorem d_G_dropSilent_12 : decode b_G_dropSilent 12 = .ok (.istore_n 3, 1) := by decide +kernel
theorem d_G_dropSilent_13 : decode b_G_dropSilent 13 = .ok (.iload_n 3, 1) := by decide +kernel
theorem d_G_dropSilent_14 : decode b_G_dropSilent 14 = .ok (.bipush 8, 2) := by decide +kernel
theorem d_G_dropSilent_16 : decode b_G_dropSilent 16 = .ok (.if_icmp .ge 36, 3) := by decide +kernel
theorem d_G_dropSilent_19 : decode b_G_dropSilent 19 = .ok (.aload_n 0, 1) := by decide +kernel
theorem d_G_dropSilent_20 : decode b_G_dropSilent 20 = .ok (.iload_n 3, 1) := by decide +kernel
theorem d_G_dropSilent_21 : decode b_G_dropSilent 21 = .ok (.invokevirtual 47, 3) := by decide +kernel
theorem d_G_dropSilent_24 : decode b_G_dropSilent 24 = .ok (.ifCond .eq 22, 3) := by decide +kernel
theorem d_G_dropSilent_27 : decode b_G_dropSilent 27 = .ok (.iload_n 1, 1) := by decide +kernel
theorem d_G_dropSilent_28 : decode b_G_dropSilent 28 = .ok (.aload_n 0, 1) := by decide +kernel
theorem d_G_dropSilent_29 : decode b_G_dropSilent 29 = .ok (.getfield 15, 3) := by decide +kernel
theorem d_G_dropSilent_32 : decode b_G_dropSilent 32 = .ok (.iload_n 3, 1) := by decide +kernel
theorem d_G_dropSilent_33 : decode b_G_dropSilent 33 = .ok (.iaload, 1) := by decide +kernel
theorem d_G_dropSilent_34 : decode b_G_dropSilent 34 = .ok (.isub, 1) := by decide +kernel
theorem d_G_dropSilent_35 : decode b_G_dropSilent 35 = .ok (.bipush 30, 2) := by decide +kernel
theorem d_G_dropSilent_37 : decode b_G_dropSilent 37 = .ok (.if_icmp .lt 9, 3) := by decide +kernel
theorem d_G_dropSilent_40 : decode b_G_dropSilent 40 = .ok (.iload_n 2, 1) := by decide +kernel
theorem d_G_dropSilent_41 : decode b_G_dropSilent 41 = .ok (.iconst 1, 1) := by decide +kernel
theorem d_G_dropSilent_42 : decode b_G_dropSilent 42 = .ok (.iload_n 3, 1) := by decide +kernel
theorem d_G_dropSilent_43 : decode b_G_dropSilent 43 = .ok (.ishl, 1) := by decide +kernel
theorem d_G_dropSilent_44 : decode b_G_dropSilent 44 = .ok (.ior, 1) := by decide +kernel
theorem d_G_dropSilent_45 : decode b_G_dropSilent 45 = .ok (.istore_n 2, 1) := by decide +kernel
theorem d_G_dropSilent_46 : decode b_G_dropSilent 46 = .ok (.iinc 3 1, 3) := by decide +kernel
theorem d_G_dropSilent_49 : decode b_G_dropSilent 49 = .ok (.goto (-36), 3) := by decide +kernel
theorem d_G_dropSilent_52 : decode b_G_dropSilent 52 = .ok (.iload_n 2, 1) := by decide +kernel
theorem d_G_dropSilent_53 : decode b_G_dropSilent 53 = .ok (.ifCond .eq 9, 3) := by decide +kernel
theorem d_G_dropSilent_56 : decode b_G_dropSilent 56 = .ok (.aload_n 0, 1) := by decide +kernel
theorem d_G_dropSilent_57 : decode b_G_dropSilent 57 = .ok (.iload_n 2, 1) := by decide +kernel
theorem d_G_dropSilent_58 : decode b_G_dropSilent 58 = .ok (.iload_n 1, 1) := by decide +kernel
theorem d_G_dropSilent_59 : decode b_G_dropSilent 59 = .ok (.invokevirtual 51, 3) := by decide +kernel
theorem d_G_dropSilent_62 : decode b_G_dropSilent 62 = .ok (.return_, 1) := by decide +kernel
end
section
theorem d_M_init_0 : decode b_M_init 0 = .ok (.aload_n 0, 1) := by decide +kernel
theorem d_M_init_1 : decode b_M_init 1 = .ok (.invokespecial 1, 3) := by decide +kernel
theorem d_M_init_4 : decode b_M_init 4 = .ok (.aload_n 0, 1) := by decide +kernel
theorem d_M_init_5 : decode b_M_init 5 = .ok (.sipush 1000, 3) := by decide +kernel
theorem d_M_init_8 : decode b_M_init 8 = .ok (.putfield 7, 3) := by decide +kernel
theorem d_M_init_11 : decode b_M_init 11 = .ok (.aload_n 0, 1) := by decide +kernel
theorem d_M_init_12 : decode b_M_init 12 = .ok (.bipush 8, 2) := by decide +kernel
theorem d_M_init_14 : decode b_M_init 14 = .ok (.newarray .int, 2) := by decide +kernel
theorem d_M_init_16 : decode b_M_init 16 = .ok (.putfield 13, 3) := by decide +kernel
theorem d_M_init_19 : decode b_M_init 19 = .ok (.aload_n 0, 1) := by decide +kernel
theorem d_M_init_20 : decode b_M_init 20 = .ok (.bipush 8, 2) := by decide +kernel
theorem d_M_init_22 : decode b_M_init 22 = .ok (.newarray .int, 2) := by decide +kernel
theorem d_M_init_24 : decode b_M_init 24 = .ok (.putfield 17, 3) := by decide +kernel
theorem d_M_init_27 : decode b_M_init 27 = .ok (.aload_n 0, 1) := by decide +kernel
theorem d_M_init_28 : decode b_M_init 28 = .ok (.bipush 8, 2) := by decide +kernel
theorem d_M_init_30 : decode b_M_init 30 = .ok (.newarray .int, 2) := by decide +kernel
theorem d_M_init_32 : decode b_M_init 32 = .ok (.putfield 20, 3) := by decide +kernel
theorem d_M_init_35 : decode b_M_init 35 = .ok (.aload_n 0, 1) := by decide +kernel
theorem d_M_init_36 : decode b_M_init 36 = .ok (.bipush 64, 2) := by decide +kernel
theorem d_M_init_38 : decode b_M_init 38 = .ok (.newarray .boolean, 2) := by decide +kernel
theorem d_M_init_40 : decode b_M_init 40 = .ok (.putfield 23, 3) := by decide +kernel
theorem d_M_init_43 : decode b_M_init 43 = .ok (.aload_n 0, 1) := by decide +kernel
theorem d_M_init_44 : decode b_M_init 44 = .ok (.bipush 64, 2) := by decide +kernel
theorem d_M_init_46 : decode b_M_init 46 = .ok (.newarray .boolean, 2) := by decide +kernel
theorem d_M_init_48 : decode b_M_init 48 = .ok (.putfield 27, 3) := by decide +kernel
theorem d_M_init_51 : decode b_M_init 51 = .ok (.aload_n 0, 1) := by decide +kernel
theorem d_M_init_52 : decode b_M_init 52 = .ok (.bipush 64, 2) := by decide +kernel
theorem d_M_init_54 : decode b_M_init 54 = .ok (.newarray .int, 2) := by decide +kernel
theorem d_M_init_56 : decode b_M_init 56 = .ok (.putfield 30, 3) := by decide +kernel
theorem d_M_init_59 : decode b_M_init 59 = .ok (.aload_n 0, 1) := by decide +kernel
theorem d_M_init_60 : decode b_M_init 60 = .ok (.bipush 64, 2) := by decide +kernel
theorem d_M_init_62 : decode b_M_init 62 = .ok (.newarray .long, 2) := by decide +kernel
theorem d_M_init_64 : decode b_M_init 64 = .ok (.putfield 33, 3) := by decide +kernel
theorem d_M_init_67 : decode b_M_init 67 = .ok (.aload_n 0, 1) := by decide +kernel
theorem d_M_init_68 : decode b_M_init 68 = .ok (.iload_n 1, 1) := by decide +kernel
theorem d_M_init_69 : decode b_M_init 69 = .ok (.iconst 1, 1) := by decide +kernel
theorem d_M_init_70 : decode b_M_init 70 = .ok (.if_icmp .ge 7, 3) := by decide +kernel
theorem d_M_init_73 : decode b_M_init 73 = .ok (.iconst 1, 1) := by decide +kernel
theorem d_M_init_74 : decode b_M_init 74 = .ok (.goto 15, 3) := by decide +kernel
theorem d_M_init_77 : decode b_M_init 77 = .ok (.iload_n 1, 1) := by decide +kernel
theorem d_M_init_78 : decode b_M_init 78 = .ok (.bipush 8, 2) := by decide +kernel
theorem d_M_init_80 : decode b_M_init 80 = .ok (.if_icmp .le 8, 3) := by decide +kernel
theorem d_M_init_83 : decode b_M_init 83 = .ok (.bipush 8, 2) := by decide +kernel
theorem d_M_init_85 : decode b_M_init 85 = .ok (.goto 4, 3) := by decide +kernel
theorem d_M_init_88 : decode b_M_init 88 = .ok (.iload_n 1, 1) := by decide +kernel
theorem d_M_init_89 : decode b_M_init 89 = .ok (.putfield 37, 3) := by decide +kernel
theorem d_M_init_92 : decode b_M_init 92 = .ok (.iconst 0, 1) := by decide +kernel
theorem d_M_init_93 : decode b_M_init 93 = .ok (.istore_n 2, 1) := by decide +kernel
theorem d_M_init_94 : decode b_M_init 94 = .ok (.iload_n 2, 1) := by decide +kernel
theorem d_M_init_95 : decode b_M_init 95 = .ok (.bipush 8, 2) := by decide +kernel
theorem d_M_init_97 : decode b_M_init 97 = .ok (.if_icmp .ge 37, 3) := by decide +kernel
theorem d_M_init_100 : decode b_M_init 100 = .ok (.iconst 0, 1) := by decide +kernel
theorem d_M_init_101 : decode b_M_init 101 = .ok (.istore_n 3, 1) := by decide +kernel
theorem d_M_init_102 : decode b_M_init 102 = .ok (.iload_n 3, 1) := by decide +kernel
theorem d_M_init_103 : decode b_M_init 103 = .ok (.bipush 8, 2) := by decide +kernel
theorem d_M_init_105 : decode b_M_init 105 = .ok (.if_icmp .ge 23, 3) := by decide +kernel
theorem d_M_init_108 : decode b_M_init 108 = .ok (.aload_n 0, 1) := by decide +kernel
theorem d_M_init_109 : decode b_M_init 109 = .ok (.getfield 33, 3) := by decide +kernel
theorem d_M_init_112 : decode b_M_init 112 = .ok (.bipush 8, 2) := by decide +kernel
theorem d_M_init_114 : decode b_M_init 114 = .ok (.iload_n 2, 1) := by decide +kernel
theorem d_M_init_115 : decode b_M_init 115 = .ok (.imul, 1) := by decide +kernel
theorem d_M_init_116 : decode b_M_init 116 = .ok (.iload_n 3, 1) := by decide +kernel
theorem d_M_init_117 : decode b_M_init 117 = .ok (.iadd, 1) := by decide +kernel
theorem d_M_init_118 : decode b_M_init 118 = .ok (.ldc2_w 40, 3) := by decide +kernel
theorem d_M_init_121 : decode b_M_init 121 = .ok (.lastore, 1) := by decide +kernel
theorem d_M_init_122 : decode b_M_init 122 = .ok (.iinc 3 1, 3) := by decide +kernel
theorem d_M_init_125 : decode b_M_init 125 = .ok (.goto (-23), 3) := by decide +kernel
theorem d_M_init_128 : decode b_M_init 128 = .ok (.iinc 2 1, 3) := by decide +kernel
theorem d_M_init_131 : decode b_M_init 131 = .ok (.goto (-37), 3) := by decide +kernel
theorem d_M_init_134 : decode b_M_init 134 = .ok (.return_, 1) := by decide +kernel
theorem d_M_thrown_0 : decode b_M_thrown 0 = .ok (.aload_n 0, 1) := by decide +kernel
theorem d_M_thrown_1 : decode b_M_thrown 1 = .ok (.getfield 42, 3) := by decide +kernel
theorem d_M_thrown_4 : decode b_M_thrown 4 = .ok (.ireturn, 1) := by decide +kernel
theorem d_M_join_0 : decode b_M_join 0 = .ok (.aload_n 0, 1) := by decide +kernel
theorem d_M_join_1 : decode b_M_join 1 = .ok (.iload_n 1, 1) := by decide +kernel
theorem d_M_join_2 : decode b_M_join 2 = .ok (.invokestatic 69, 3) := by decide +kernel
theorem d_M_join_5 : decode b_M_join 5 = .ok (.ifCond .eq 14, 3) := by decide +kernel
theorem d_M_join_8 : decode b_M_join 8 = .ok (.iload_n 2, 1) := by decide +kernel
theorem d_M_join_9 : decode b_M_join 9 = .ok (.invokestatic 69, 3) := by decide +kernel
theorem d_M_join_12 : decode b_M_join 12 = .ok (.ifCond .eq 7, 3) := by decide +kernel
theorem d_M_join_15 : decode b_M_join 15 = .ok (.iconst 1, 1) := by decide +kernel
theorem d_M_join_16 : decode b_M_join 16 = .ok (.goto 4, 3) := by decide +kernel
theorem d_M_join_19 : decode b_M_join 19 = .ok (.iconst 0, 1) := by decide +kernel
theorem d_M_join_20 : decode b_M_join 20 = .ok (.invokevirtual 73, 3) := by decide +kernel
theorem d_M_join_23 : decode b_M_join 23 = .ok (.ifCond .ne 5, 3) := by decide +kernel
theorem d_M_join_26 : decode b_M_join 26 = .ok (.iconst 0, 1) := by decide +kernel
theorem d_M_join_27 : decode b_M_join 27 = .ok (.ireturn, 1) := by decide +kernel
theorem d_M_join_28 : decode b_M_join 28 = .ok (.aload_n 0, 1) := by decide +kernel
theorem d_M_join_29 : decode b_M_join 29 = .ok (.getfield 23, 3) := by decide +kernel
theorem d_M_join_32 : decode b_M_join 32 = .ok (.bipush 8, 2) := by decide +kernel
theorem d_M_join_34 : decode b_M_join 34 = .ok (.iload_n 1, 1) := by decide +kernel
theorem d_M_join_35 : decode b_M_join 35 = .ok (.imul, 1) := by decide +kernel
theorem d_M_join_36 : decode b_M_join 36 = .ok (.iload_n 2, 1) := by decide +kernel
theorem d_M_join_37 : decode b_M_join 37 = .ok (.iadd, 1) := by decide +kernel
theorem d_M_join_38 : decode b_M_join 38 = .ok (.iconst 1, 1) := by decide +kernel
theorem d_M_join_39 : decode b_M_join 39 = .ok (.bastore, 1) := by decide +kernel
theorem d_M_join_40 : decode b_M_join 40 = .ok (.aload_n 0, 1) := by decide +kernel
theorem d_M_join_41 : decode b_M_join 41 = .ok (.getfield 13, 3) := by decide +kernel
theorem d_M_join_44 : decode b_M_join 44 = .ok (.iload_n 1, 1) := by decide +kernel
theorem d_M_join_45 : decode b_M_join 45 = .ok (.iaload, 1) := by decide +kernel
theorem d_M_join_46 : decode b_M_join 46 = .ok (.iconst 1, 1) := by decide +kernel
theorem d_M_join_47 : decode b_M_join 47 = .ok (.if_icmp .eq 8, 3) := by decide +kernel
theorem d_M_join_50 : decode b_M_join 50 = .ok (.aload_n 0, 1) := by decide +kernel
theorem d_M_join_51 : decode b_M_join 51 = .ok (.iload_n 1, 1) := by decide +kernel
theorem d_M_join_52 : decode b_M_join 52 = .ok (.invokevirtual 66, 3) := by decide +kernel
theorem d_M_join_55 : decode b_M_join 55 = .ok (.aload_n 0, 1) := by decide +kernel
theorem d_M_join_56 : decode b_M_join 56 = .ok (.getfield 27, 3) := by decide +kernel
theorem d_M_join_59 : decode b_M_join 59 = .ok (.bipush 8, 2) := by decide +kernel
theorem d_M_join_61 : decode b_M_join 61 = .ok (.iload_n 1, 1) := by decide +kernel
theorem d_M_join_62 : decode b_M_join 62 = .ok (.imul, 1) := by decide +kernel
theorem d_M_join_63 : decode b_M_join 63 = .ok (.iload_n 2, 1) := by decide +kernel
theorem d_M_join_64 : decode b_M_join 64 = .ok (.iadd, 1) := by decide +kernel
theorem d_M_join_65 : decode b_M_join 65 = .ok (.iconst 1, 1) := by decide +kernel
theorem d_M_join_66 : decode b_M_join 66 = .ok (.bastore, 1) := by decide +kernel
theorem d_M_join_67 : decode b_M_join 67 = .ok (.aload_n 0, 1) := by decide +kernel
theorem d_M_join_68 : decode b_M_join 68 = .ok (.getfield 30, 3) := by decide +kernel
theorem d_M_join_71 : decode b_M_join 71 = .ok (.bipush 8, 2) := by decide +kernel
theorem d_M_join_73 : decode b_M_join 73 = .ok (.iload_n 1, 1) := by decide +kernel
theorem d_M_join_74 : decode b_M_join 74 = .ok (.imul, 1) := by decide +kernel
theorem d_M_join_75 : decode b_M_join 75 = .ok (.iload_n 2, 1) := by decide +kernel
theorem d_M_join_76 : decode b_M_join 76 = .ok (.iadd, 1) := by decide +kernel
theorem d_M_join_77 : decode b_M_join 77 = .ok (.aload_n 0, 1) := by decide +kernel
theorem d_M_join_78 : decode b_M_join 78 = .ok (.getfield 48, 3) := by decide +kernel
theorem d_M_join_81 : decode b_M_join 81 = .ok (.iastore, 1) := by decide +kernel
theorem d_M_join_82 : decode b_M_join 82 = .ok (.aload_n 0, 1) := by decide +kernel
theorem d_M_join_83 : decode b_M_join 83 = .ok (.iload_n 1, 1) := by decide +kernel
theorem d_M_join_84 : decode b_M_join 84 = .ok (.invokevirtual 77, 3) := by decide +kernel
theorem d_M_join_87 : decode b_M_join 87 = .ok (.aload_n 0, 1) := by decide +kernel
theorem d_M_join_88 : decode b_M_join 88 = .ok (.getfield 13, 3) := by decide +kernel
theorem d_M_join_91 : decode b_M_join 91 = .ok (.iload_n 1, 1) := by decide +kernel
theorem d_M_join_92 : decode b_M_join 92 = .ok (.iaload, 1) := by decide +kernel
theorem d_M_join_93 : decode b_M_join 93 = .ok (.iconst 2, 1) := by decide +kernel
theorem d_M_join_94 : decode b_M_join 94 = .ok (.if_icmp .ne 12, 3) := by decide +kernel
theorem d_M_join_97 : decode b_M_join 97 = .ok (.aload_n 0, 1) := by decide +kernel
theorem d_M_join_98 : decode b_M_join 98 = .ok (.getfield 17, 3) := by decide +kernel
theorem d_M_join_101 : decode b_M_join 101 = .ok (.iload_n 1, 1) := by decide +kernel
theorem d_M_join_102 : decode b_M_join 102 = .ok (.iaload, 1) := by decide +kernel
theorem d_M_join_103 : decode b_M_join 103 = .ok (.goto 4, 3) := by decide +kernel
theorem d_M_join_106 : decode b_M_join 106 = .ok (.iconst (-1), 1) := by decide +kernel
theorem d_M_join_107 : decode b_M_join 107 = .ok (.ireturn, 1) := by decide +kernel
theorem d_M_isOne_0 : decode b_M_isOne 0 = .ok (.iload_n 0, 1) := by decide +kernel
theorem d_M_isOne_1 : decode b_M_isOne 1 = .ok (.ifCond .lt 13, 3) := by decide +kernel
theorem d_M_isOne_4 : decode b_M_isOne 4 = .ok (.iload_n 0, 1) := by decide +kernel
theorem d_M_isOne_5 : decode b_M_isOne 5 = .ok (.bipush 8, 2) := by decide +kernel
theorem d_M_isOne_7 : decode b_M_isOne 7 = .ok (.if_icmp .ge 7, 3) := by decide +kernel
theorem d_M_isOne_10 : decode b_M_isOne 10 = .ok (.iconst 1, 1) := by decide +kernel
theorem d_M_isOne_11 : decode b_M_isOne 11 = .ok (.goto 4, 3) := by decide +kernel
theorem d_M_isOne_14 : decode b_M_isOne 14 = .ok (.iconst 0, 1) := by decide +kernel
theorem d_M_isOne_15 : decode b_M_isOne 15 = .ok (.ireturn, 1) := by decide +kernel
theorem d_M_goes_0 : decode b_M_goes 0 = .ok (.aload_n 0, 1) := by decide +kernel
theorem d_M_goes_1 : decode b_M_goes 1 = .ok (.iload_n 1, 1) := by decide +kernel
theorem d_M_goes_2 : decode b_M_goes 2 = .ok (.ifCond .eq 7, 3) := by decide +kernel
theorem d_M_goes_5 : decode b_M_goes 5 = .ok (.iconst 0, 1) := by decide +kernel
theorem d_M_goes_6 : decode b_M_goes 6 = .ok (.goto 4, 3) := by decide +kernel
theorem d_M_goes_9 : decode b_M_goes 9 = .ok (.iconst 1, 1) := by decide +kernel
theorem d_M_goes_10 : decode b_M_goes 10 = .ok (.putfield 42, 3) := by decide +kernel
theorem d_M_goes_13 : decode b_M_goes 13 = .ok (.iload_n 1, 1) := by decide +kernel
theorem d_M_goes_14 : decode b_M_goes 14 = .ok (.ireturn, 1) := by decide +kernel
theorem d_M_mixes_0 : decode b_M_mixes 0 = .ok (.aload_n 0, 1) := by decide +kernel
theorem d_M_mixes_1 : decode b_M_mixes 1 = .ok (.getfield 13, 3) := by decide +kernel
theorem d_M_mixes_4 : decode b_M_mixes 4 = .ok (.iload_n 1, 1) := by decide +kernel
theorem d_M_mixes_5 : decode b_M_mixes 5 = .ok (.iconst 1, 1) := by decide +kernel
theorem d_M_mixes_6 : decode b_M_mixes 6 = .ok (.iastore, 1) := by decide +kernel
theorem d_M_mixes_7 : decode b_M_mixes 7 = .ok (.aload_n 0, 1) := by decide +kernel
theorem d_M_mixes_8 : decode b_M_mixes 8 = .ok (.getfield 20, 3) := by decide +kernel
theorem d_M_mixes_11 : decode b_M_mixes 11 = .ok (.iload_n 1, 1) := by decide +kernel
theorem d_M_mixes_12 : decode b_M_mixes 12 = .ok (.aload_n 0, 1) := by decide +kernel
theorem d_M_mixes_13 : decode b_M_mixes 13 = .ok (.getfield 48, 3) := by decide +kernel
theorem d_M_mixes_16 : decode b_M_mixes 16 = .ok (.bipush 20, 2) := by decide +kernel
theorem d_M_mixes_18 : decode b_M_mixes 18 = .ok (.iadd, 1) := by decide +kernel
theorem d_M_mixes_19 : decode b_M_mixes 19 = .ok (.iastore, 1) := by decide +kernel
theorem d_M_mixes_20 : decode b_M_mixes 20 = .ok (.iconst 0, 1) := by decide +kernel
theorem d_M_mixes_21 : decode b_M_mixes 21 = .ok (.istore_n 2, 1) := by decide +kernel
theorem d_M_mixes_22 : decode b_M_mixes 22 = .ok (.iload_n 2, 1) := by decide +kernel
theorem d_M_mixes_23 : decode b_M_mixes 23 = .ok (.bipush 8, 2) := by decide +kernel
theorem d_M_mixes_25 : decode b_M_mixes 25 = .ok (.if_icmp .ge 21, 3) := by decide +kernel
theorem d_M_mixes_28 : decode b_M_mixes 28 = .ok (.aload_n 0, 1) := by decide +kernel
theorem d_M_mixes_29 : decode b_M_mixes 29 = .ok (.getfield 27, 3) := by decide +kernel
theorem d_M_mixes_32 : decode b_M_mixes 32 = .ok (.bipush 8, 2) := by decide +kernel
theorem d_M_mixes_34 : decode b_M_mixes 34 = .ok (.iload_n 1, 1) := by decide +kernel
theorem d_M_mixes_35 : decode b_M_mixes 35 = .ok (.imul, 1) := by decide +kernel
theorem d_M_mixes_36 : decode b_M_mixes 36 = .ok (.iload_n 2, 1) := by decide +kernel
theorem d_M_mixes_37 : decode b_M_mixes 37 = .ok (.iadd, 1) := by decide +kernel
theorem d_M_mixes_38 : decode b_M_mixes 38 = .ok (.iconst 0, 1) := by decide +kernel
theorem d_M_mixes_39 : decode b_M_mixes 39 = .ok (.bastore, 1) := by decide +kernel
theorem d_M_mixes_40 : decode b_M_mixes 40 = .ok (.iinc 2 1, 3) := by decide +kernel
theorem d_M_mixes_43 : decode b_M_mixes 43 = .ok (.goto (-21), 3) := by decide +kernel
theorem d_M_mixes_46 : decode b_M_mixes 46 = .ok (.return_, 1) := by decide +kernel
theorem d_M_mayBeDone_0 : decode b_M_mayBeDone 0 = .ok (.aload_n 0, 1) := by decide +kernel
theorem d_M_mayBeDone_1 : decode b_M_mayBeDone 1 = .ok (.getfield 13, 3) := by decide +kernel
theorem d_M_mayBeDone_4 : decode b_M_mayBeDone 4 = .ok (.iload_n 1, 1) := by decide +kernel
theorem d_M_mayBeDone_5 : decode b_M_mayBeDone 5 = .ok (.iaload, 1) := by decide +kernel
theorem d_M_mayBeDone_6 : decode b_M_mayBeDone 6 = .ok (.iconst 1, 1) := by decide +kernel
theorem d_M_mayBeDone_7 : decode b_M_mayBeDone 7 = .ok (.if_icmp .eq 4, 3) := by decide +kernel
theorem d_M_mayBeDone_10 : decode b_M_mayBeDone 10 = .ok (.return_, 1) := by decide +kernel
theorem d_M_mayBeDone_11 : decode b_M_mayBeDone 11 = .ok (.aload_n 0, 1) := by decide +kernel
theorem d_M_mayBeDone_12 : decode b_M_mayBeDone 12 = .ok (.iload_n 1, 1) := by decide +kernel
theorem d_M_mayBeDone_13 : decode b_M_mayBeDone 13 = .ok (.invokevirtual 51, 3) := by decide +kernel
theorem d_M_mayBeDone_16 : decode b_M_mayBeDone 16 = .ok (.istore_n 2, 1) := by decide +kernel
theorem d_M_mayBeDone_17 : decode b_M_mayBeDone 17 = .ok (.aload_n 0, 1) := by decide +kernel
theorem d_M_mayBeDone_18 : decode b_M_mayBeDone 18 = .ok (.iload_n 1, 1) := by decide +kernel
theorem d_M_mayBeDone_19 : decode b_M_mayBeDone 19 = .ok (.invokevirtual 55, 3) := by decide +kernel
theorem d_M_mayBeDone_22 : decode b_M_mayBeDone 22 = .ok (.istore_n 3, 1) := by decide +kernel
theorem d_M_mayBeDone_23 : decode b_M_mayBeDone 23 = .ok (.iload_n 3, 1) := by decide +kernel
theorem d_M_mayBeDone_24 : decode b_M_mayBeDone 24 = .ok (.iload_n 2, 1) := by decide +kernel
theorem d_M_mayBeDone_25 : decode b_M_mayBeDone 25 = .ok (.if_icmp .ge 17, 3) := by decide +kernel
theorem d_M_mayBeDone_28 : decode b_M_mayBeDone 28 = .ok (.aload_n 0, 1) := by decide +kernel
theorem d_M_mayBeDone_29 : decode b_M_mayBeDone 29 = .ok (.getfield 48, 3) := by decide +kernel
theorem d_M_mayBeDone_32 : decode b_M_mayBeDone 32 = .ok (.aload_n 0, 1) := by decide +kernel
theorem d_M_mayBeDone_33 : decode b_M_mayBeDone 33 = .ok (.getfield 20, 3) := by decide +kernel
theorem d_M_mayBeDone_36 : decode b_M_mayBeDone 36 = .ok (.iload_n 1, 1) := by decide +kernel
theorem d_M_mayBeDone_37 : decode b_M_mayBeDone 37 = .ok (.iaload, 1) := by decide +kernel
theorem d_M_mayBeDone_38 : decode b_M_mayBeDone 38 = .ok (.if_icmp .ge 4, 3) := by decide +kernel
theorem d_M_mayBeDone_41 : decode b_M_mayBeDone 41 = .ok (.return_, 1) := by decide +kernel
theorem d_M_mayBeDone_42 : decode b_M_mayBeDone 42 = .ok (.iload_n 3, 1) := by decide +kernel
theorem d_M_mayBeDone_43 : decode b_M_mayBeDone 43 = .ok (.ifCond .ne 9, 3) := by decide +kernel
theorem d_M_mayBeDone_46 : decode b_M_mayBeDone 46 = .ok (.aload_n 0, 1) := by decide +kernel
theorem d_M_mayBeDone_47 : decode b_M_mayBeDone 47 = .ok (.iload_n 1, 1) := by decide +kernel
theorem d_M_mayBeDone_48 : decode b_M_mayBeDone 48 = .ok (.invokevirtual 58, 3) := by decide +kernel
theorem d_M_mayBeDone_51 : decode b_M_mayBeDone 51 = .ok (.return_, 1) := by decide +kernel
theorem d_M_mayBeDone_52 : decode b_M_mayBeDone 52 = .ok (.aload_n 0, 1) := by decide +kernel
theorem d_M_mayBeDone_53 : decode b_M_mayBeDone 53 = .ok (.invokevirtual 62, 3) := by decide +kernel
theorem d_M_mayBeDone_56 : decode b_M_mayBeDone 56 = .ok (.ifCond .ne 4, 3) := by decide +kernel
theorem d_M_mayBeDone_59 : decode b_M_mayBeDone 59 = .ok (.return_, 1) := by decide +kernel
theorem d_M_mayBeDone_60 : decode b_M_mayBeDone 60 = .ok (.iconst 0, 1) := by decide +kernel
theorem d_M_mayBeDone_61 : decode b_M_mayBeDone 61 = .ok (.istore 4, 2) := by decide +kernel
theorem d_M_mayBeDone_63 : decode b_M_mayBeDone 63 = .ok (.iload 4, 2) := by decide +kernel
theorem d_M_mayBeDone_65 : decode b_M_mayBeDone 65 = .ok (.bipush 8, 2) := by decide +kernel
theorem d_M_mayBeDone_67 : decode b_M_mayBeDone 67 = .ok (.if_icmp .ge 72, 3) := by decide +kernel
theorem d_M_mayBeDone_70 : decode b_M_mayBeDone 70 = .ok (.aload_n 0, 1) := by decide +kernel
theorem d_M_mayBeDone_71 : decode b_M_mayBeDone 71 = .ok (.getfield 23, 3) := by decide +kernel
theorem d_M_mayBeDone_74 : decode b_M_mayBeDone 74 = .ok (.bipush 8, 2) := by decide +kernel
theorem d_M_mayBeDone_76 : decode b_M_mayBeDone 76 = .ok (.iload_n 1, 1) := by decide +kernel
theorem d_M_mayBeDone_77 : decode b_M_mayBeDone 77 = .ok (.imul, 1) := by decide +kernel
theorem d_M_mayBeDone_78 : decode b_M_mayBeDone 78 = .ok (.iload 4, 2) := by decide +kernel
theorem d_M_mayBeDone_80 : decode b_M_mayBeDone 80 = .ok (.iadd, 1) := by decide +kernel
theorem d_M_mayBeDone_81 : decode b_M_mayBeDone 81 = .ok (.aload_n 0, 1) := by decide +kernel
theorem d_M_mayBeDone_82 : decode b_M_mayBeDone 82 = .ok (.getfield 23, 3) := by decide +kernel
theorem d_M_mayBeDone_85 : decode b_M_mayBeDone 85 = .ok (.bipush 8, 2) := by decide +kernel
theorem d_M_mayBeDone_87 : decode b_M_mayBeDone 87 = .ok (.iload_n 1, 1) := by decide +kernel
theorem d_M_mayBeDone_88 : decode b_M_mayBeDone 88 = .ok (.imul, 1) := by decide +kernel
theorem d_M_mayBeDone_89 : decode b_M_mayBeDone 89 = .ok (.iload 4, 2) := by decide +kernel
theorem d_M_mayBeDone_91 : decode b_M_mayBeDone 91 = .ok (.iadd, 1) := by decide +kernel
theorem d_M_mayBeDone_92 : decode b_M_mayBeDone 92 = .ok (.baload, 1) := by decide +kernel
theorem d_M_mayBeDone_93 : decode b_M_mayBeDone 93 = .ok (.ifCond .eq 22, 3) := by decide +kernel
theorem d_M_mayBeDone_96 : decode b_M_mayBeDone 96 = .ok (.aload_n 0, 1) := by decide +kernel
theorem d_M_mayBeDone_97 : decode b_M_mayBeDone 97 = .ok (.getfield 27, 3) := by decide +kernel
theorem d_M_mayBeDone_100 : decode b_M_mayBeDone 100 = .ok (.bipush 8, 2) := by decide +kernel
theorem d_M_mayBeDone_102 : decode b_M_mayBeDone 102 = .ok (.iload_n 1, 1) := by decide +kernel
theorem d_M_mayBeDone_103 : decode b_M_mayBeDone 103 = .ok (.imul, 1) := by decide +kernel
theorem d_M_mayBeDone_104 : decode b_M_mayBeDone 104 = .ok (.iload 4, 2) := by decide +kernel
theorem d_M_mayBeDone_106 : decode b_M_mayBeDone 106 = .ok (.iadd, 1) := by decide +kernel
theorem d_M_mayBeDone_107 : decode b_M_mayBeDone 107 = .ok (.baload, 1) := by decide +kernel
theorem d_M_mayBeDone_108 : decode b_M_mayBeDone 108 = .ok (.ifCond .eq 7, 3) := by decide +kernel
theorem d_M_mayBeDone_111 : decode b_M_mayBeDone 111 = .ok (.iconst 1, 1) := by decide +kernel
theorem d_M_mayBeDone_112 : decode b_M_mayBeDone 112 = .ok (.goto 4, 3) := by decide +kernel
theorem d_M_mayBeDone_115 : decode b_M_mayBeDone 115 = .ok (.iconst 0, 1) := by decide +kernel
theorem d_M_mayBeDone_116 : decode b_M_mayBeDone 116 = .ok (.bastore, 1) := by decide +kernel
theorem d_M_mayBeDone_117 : decode b_M_mayBeDone 117 = .ok (.aload_n 0, 1) := by decide +kernel
theorem d_M_mayBeDone_118 : decode b_M_mayBeDone 118 = .ok (.getfield 30, 3) := by decide +kernel
theorem d_M_mayBeDone_121 : decode b_M_mayBeDone 121 = .ok (.bipush 8, 2) := by decide +kernel
theorem d_M_mayBeDone_123 : decode b_M_mayBeDone 123 = .ok (.iload_n 1, 1) := by decide +kernel
theorem d_M_mayBeDone_124 : decode b_M_mayBeDone 124 = .ok (.imul, 1) := by decide +kernel
theorem d_M_mayBeDone_125 : decode b_M_mayBeDone 125 = .ok (.iload 4, 2) := by decide +kernel
theorem d_M_mayBeDone_127 : decode b_M_mayBeDone 127 = .ok (.iadd, 1) := by decide +kernel
theorem d_M_mayBeDone_128 : decode b_M_mayBeDone 128 = .ok (.aload_n 0, 1) := by decide +kernel
theorem d_M_mayBeDone_129 : decode b_M_mayBeDone 129 = .ok (.getfield 48, 3) := by decide +kernel
theorem d_M_mayBeDone_132 : decode b_M_mayBeDone 132 = .ok (.iastore, 1) := by decide +kernel
theorem d_M_mayBeDone_133 : decode b_M_mayBeDone 133 = .ok (.iinc 4 1, 3) := by decide +kernel
theorem d_M_mayBeDone_136 : decode b_M_mayBeDone 136 = .ok (.goto (-73), 3) := by decide +kernel
theorem d_M_mayBeDone_139 : decode b_M_mayBeDone 139 = .ok (.aload_n 0, 1) := by decide +kernel
theorem d_M_mayBeDone_140 : decode b_M_mayBeDone 140 = .ok (.getfield 17, 3) := by decide +kernel
theorem d_M_mayBeDone_143 : decode b_M_mayBeDone 143 = .ok (.iload_n 1, 1) := by decide +kernel
theorem d_M_mayBeDone_144 : decode b_M_mayBeDone 144 = .ok (.dup2, 1) := by decide +kernel
theorem d_M_mayBeDone_145 : decode b_M_mayBeDone 145 = .ok (.iaload, 1) := by decide +kernel
theorem d_M_mayBeDone_146 : decode b_M_mayBeDone 146 = .ok (.iconst 1, 1) := by decide +kernel
theorem d_M_mayBeDone_147 : decode b_M_mayBeDone 147 = .ok (.iadd, 1) := by decide +kernel
theorem d_M_mayBeDone_148 : decode b_M_mayBeDone 148 = .ok (.iastore, 1) := by decide +kernel
theorem d_M_mayBeDone_149 : decode b_M_mayBeDone 149 = .ok (.aload_n 0, 1) := by decide +kernel
theorem d_M_mayBeDone_150 : decode b_M_mayBeDone 150 = .ok (.getfield 13, 3) := by decide +kernel
theorem d_M_mayBeDone_153 : decode b_M_mayBeDone 153 = .ok (.iload_n 1, 1) := by decide +kernel
theorem d_M_mayBeDone_154 : decode b_M_mayBeDone 154 = .ok (.iconst 2, 1) := by decide +kernel
theorem d_M_mayBeDone_155 : decode b_M_mayBeDone 155 = .ok (.iastore, 1) := by decide +kernel
theorem d_M_mayBeDone_156 : decode b_M_mayBeDone 156 = .ok (.return_, 1) := by decide +kernel
theorem d_M_count_0 : decode b_M_count 0 = .ok (.iconst 0, 1) := by decide +kernel
theorem d_M_count_1 : decode b_M_count 1 = .ok (.istore_n 2, 1) := by decide +kernel
theorem d_M_count_2 : decode b_M_count 2 = .ok (.iconst 0, 1) := by decide +kernel
theorem d_M_count_3 : decode b_M_count 3 = .ok (.istore_n 3, 1) := by decide +kernel
theorem d_M_count_4 : decode b_M_count 4 = .ok (.iload_n 3, 1) := by decide +kernel
theorem d_M_count_5 : decode b_M_count 5 = .ok (.bipush 8, 2) := by decide +kernel
theorem d_M_count_7 : decode b_M_count 7 = .ok (.if_icmp .ge 31, 3) := by decide +kernel
theorem d_M_count_10 : decode b_M_count 10 = .ok (.iload_n 2, 1) := by decide +kernel
theorem d_M_count_11 : decode b_M_count 11 = .ok (.aload_n 0, 1) := by decide +kernel
theorem d_M_count_12 : decode b_M_count 12 = .ok (.getfield 23, 3) := by decide +kernel
theorem d_M_count_15 : decode b_M_count 15 = .ok (.bipush 8, 2) := by decide +kernel
theorem d_M_count_17 : decode b_M_count 17 = .ok (.iload_n 1, 1) := by decide +kernel
theorem d_M_count_18 : decode b_M_count 18 = .ok (.imul, 1) := by decide +kernel
theorem d_M_count_19 : decode b_M_count 19 = .ok (.iload_n 3, 1) := by decide +kernel
theorem d_M_count_20 : decode b_M_count 20 = .ok (.iadd, 1) := by decide +kernel
theorem d_M_count_21 : decode b_M_count 21 = .ok (.baload, 1) := by decide +kernel
theorem d_M_count_22 : decode b_M_count 22 = .ok (.ifCond .eq 7, 3) := by decide +kernel
theorem d_M_count_25 : decode b_M_count 25 = .ok (.iconst 1, 1) := by decide +kernel
theorem d_M_count_26 : decode b_M_count 26 = .ok (.goto 4, 3) := by decide +kernel
theorem d_M_count_29 : decode b_M_count 29 = .ok (.iconst 0, 1) := by decide +kernel
theorem d_M_count_30 : decode b_M_count 30 = .ok (.iadd, 1) := by decide +kernel
theorem d_M_count_31 : decode b_M_count 31 = .ok (.istore_n 2, 1) := by decide +kernel
theorem d_M_count_32 : decode b_M_count 32 = .ok (.iinc 3 1, 3) := by decide +kernel
theorem d_M_count_35 : decode b_M_count 35 = .ok (.goto (-31), 3) := by decide +kernel
theorem d_M_count_38 : decode b_M_count 38 = .ok (.iload_n 2, 1) := by decide +kernel
theorem d_M_count_39 : decode b_M_count 39 = .ok (.ireturn, 1) := by decide +kernel
theorem d_M_joinedOf_0 : decode b_M_joinedOf 0 = .ok (.iconst 0, 1) := by decide +kernel
theorem d_M_joinedOf_1 : decode b_M_joinedOf 1 = .ok (.istore_n 2, 1) := by decide +kernel
theorem d_M_joinedOf_2 : decode b_M_joinedOf 2 = .ok (.iconst 0, 1) := by decide +kernel
theorem d_M_joinedOf_3 : decode b_M_joinedOf 3 = .ok (.istore_n 3, 1) := by decide +kernel
theorem d_M_joinedOf_4 : decode b_M_joinedOf 4 = .ok (.iload_n 3, 1) := by decide +kernel
theorem d_M_joinedOf_5 : decode b_M_joinedOf 5 = .ok (.bipush 8, 2) := by decide +kernel
theorem d_M_joinedOf_7 : decode b_M_joinedOf 7 = .ok (.if_icmp .ge 45, 3) := by decide +kernel
theorem d_M_joinedOf_10 : decode b_M_joinedOf 10 = .ok (.iload_n 2, 1) := by decide +kernel
theorem d_M_joinedOf_11 : decode b_M_joinedOf 11 = .ok (.aload_n 0, 1) := by decide +kernel
theorem d_M_joinedOf_12 : decode b_M_joinedOf 12 = .ok (.getfield 23, 3) := by decide +kernel
theorem d_M_joinedOf_15 : decode b_M_joinedOf 15 = .ok (.bipush 8, 2) := by decide +kernel
theorem d_M_joinedOf_17 : decode b_M_joinedOf 17 = .ok (.iload_n 1, 1) := by decide +kernel
theorem d_M_joinedOf_18 : decode b_M_joinedOf 18 = .ok (.imul, 1) := by decide +kernel
theorem d_M_joinedOf_19 : decode b_M_joinedOf 19 = .ok (.iload_n 3, 1) := by decide +kernel
theorem d_M_joinedOf_20 : decode b_M_joinedOf 20 = .ok (.iadd, 1) := by decide +kernel
theorem d_M_joinedOf_21 : decode b_M_joinedOf 21 = .ok (.baload, 1) := by decide +kernel
theorem d_M_joinedOf_22 : decode b_M_joinedOf 22 = .ok (.ifCond .eq 21, 3) := by decide +kernel
theorem d_M_joinedOf_25 : decode b_M_joinedOf 25 = .ok (.aload_n 0, 1) := by decide +kernel
theorem d_M_joinedOf_26 : decode b_M_joinedOf 26 = .ok (.getfield 27, 3) := by decide +kernel
theorem d_M_joinedOf_29 : decode b_M_joinedOf 29 = .ok (.bipush 8, 2) := by decide +kernel
theorem d_M_joinedOf_31 : decode b_M_joinedOf 31 = .ok (.iload_n 1, 1) := by decide +kernel
theorem d_M_joinedOf_32 : decode b_M_joinedOf 32 = .ok (.imul, 1) := by decide +kernel
theorem d_M_joinedOf_33 : decode b_M_joinedOf 33 = .ok (.iload_n 3, 1) := by decide +kernel
theorem d_M_joinedOf_34 : decode b_M_joinedOf 34 = .ok (.iadd, 1) := by decide +kernel
theorem d_M_joinedOf_35 : decode b_M_joinedOf 35 = .ok (.baload, 1) := by decide +kernel
theorem d_M_joinedOf_36 : decode b_M_joinedOf 36 = .ok (.ifCond .eq 7, 3) := by decide +kernel
theorem d_M_joinedOf_39 : decode b_M_joinedOf 39 = .ok (.iconst 1, 1) := by decide +kernel
theorem d_M_joinedOf_40 : decode b_M_joinedOf 40 = .ok (.goto 4, 3) := by decide +kernel
theorem d_M_joinedOf_43 : decode b_M_joinedOf 43 = .ok (.iconst 0, 1) := by decide +kernel
theorem d_M_joinedOf_44 : decode b_M_joinedOf 44 = .ok (.iadd, 1) := by decide +kernel
theorem d_M_joinedOf_45 : decode b_M_joinedOf 45 = .ok (.istore_n 2, 1) := by decide +kernel
theorem d_M_joinedOf_46 : decode b_M_joinedOf 46 = .ok (.iinc 3 1, 3) := by decide +kernel
theorem d_M_joinedOf_49 : decode b_M_joinedOf 49 = .ok (.goto (-45), 3) := by decide +kernel
theorem d_M_joinedOf_52 : decode b_M_joinedOf 52 = .ok (.iload_n 2, 1) := by decide +kernel
theorem d_M_joinedOf_53 : decode b_M_joinedOf 53 = .ok (.ireturn, 1) := by decide +kernel
theorem d_M_empties_0 : decode b_M_empties 0 = .ok (.aload_n 0, 1) := by decide +kernel
theorem d_M_empties_1 : decode b_M_empties 1 = .ok (.getfield 13, 3) := by decide +kernel
theorem d_M_empties_4 : decode b_M_empties 4 = .ok (.iload_n 1, 1) := by decide +kernel
theorem d_M_empties_5 : decode b_M_empties 5 = .ok (.iconst 0, 1) := by decide +kernel
theorem d_M_empties_6 : decode b_M_empties 6 = .ok (.iastore, 1) := by decide +kernel
theorem d_M_empties_7 : decode b_M_empties 7 = .ok (.iconst 0, 1) := by decide +kernel
theorem d_M_empties_8 : decode b_M_empties 8 = .ok (.istore_n 2, 1) := by decide +kernel
theorem d_M_empties_9 : decode b_M_empties 9 = .ok (.iload_n 2, 1) := by decide +kernel
theorem d_M_empties_10 : decode b_M_empties 10 = .ok (.bipush 8, 2) := by decide +kernel
theorem d_M_empties_12 : decode b_M_empties 12 = .ok (.if_icmp .ge 33, 3) := by decide +kernel
theorem d_M_empties_15 : decode b_M_empties 15 = .ok (.aload_n 0, 1) := by decide +kernel
theorem d_M_empties_16 : decode b_M_empties 16 = .ok (.getfield 23, 3) := by decide +kernel
theorem d_M_empties_19 : decode b_M_empties 19 = .ok (.bipush 8, 2) := by decide +kernel
theorem d_M_empties_21 : decode b_M_empties 21 = .ok (.iload_n 1, 1) := by decide +kernel
theorem d_M_empties_22 : decode b_M_empties 22 = .ok (.imul, 1) := by decide +kernel
theorem d_M_empties_23 : decode b_M_empties 23 = .ok (.iload_n 2, 1) := by decide +kernel
theorem d_M_empties_24 : decode b_M_empties 24 = .ok (.iadd, 1) := by decide +kernel
theorem d_M_empties_25 : decode b_M_empties 25 = .ok (.iconst 0, 1) := by decide +kernel
theorem d_M_empties_26 : decode b_M_empties 26 = .ok (.bastore, 1) := by decide +kernel
theorem d_M_empties_27 : decode b_M_empties 27 = .ok (.aload_n 0, 1) := by decide +kernel
theorem d_M_empties_28 : decode b_M_empties 28 = .ok (.getfield 27, 3) := by decide +kernel
theorem d_M_empties_31 : decode b_M_empties 31 = .ok (.bipush 8, 2) := by decide +kernel
theorem d_M_empties_33 : decode b_M_empties 33 = .ok (.iload_n 1, 1) := by decide +kernel
theorem d_M_empties_34 : decode b_M_empties 34 = .ok (.imul, 1) := by decide +kernel
theorem d_M_empties_35 : decode b_M_empties 35 = .ok (.iload_n 2, 1) := by decide +kernel
theorem d_M_empties_36 : decode b_M_empties 36 = .ok (.iadd, 1) := by decide +kernel
theorem d_M_empties_37 : decode b_M_empties 37 = .ok (.iconst 0, 1) := by decide +kernel
theorem d_M_empties_38 : decode b_M_empties 38 = .ok (.bastore, 1) := by decide +kernel
theorem d_M_empties_39 : decode b_M_empties 39 = .ok (.iinc 2 1, 3) := by decide +kernel
theorem d_M_empties_42 : decode b_M_empties 42 = .ok (.goto (-33), 3) := by decide +kernel
theorem d_M_empties_45 : decode b_M_empties 45 = .ok (.return_, 1) := by decide +kernel
theorem d_M_takesNote_0 : decode b_M_takesNote 0 = .ok (.aload_n 0, 1) := by decide +kernel
theorem d_M_takesNote_1 : decode b_M_takesNote 1 = .ok (.getfield 7, 3) := by decide +kernel
theorem d_M_takesNote_4 : decode b_M_takesNote 4 = .ok (.ifCond .ne 5, 3) := by decide +kernel
theorem d_M_takesNote_7 : decode b_M_takesNote 7 = .ok (.iconst 0, 1) := by decide +kernel
theorem d_M_takesNote_8 : decode b_M_takesNote 8 = .ok (.ireturn, 1) := by decide +kernel
theorem d_M_takesNote_9 : decode b_M_takesNote 9 = .ok (.aload_n 0, 1) := by decide +kernel
theorem d_M_takesNote_10 : decode b_M_takesNote 10 = .ok (.dup, 1) := by decide +kernel
theorem d_M_takesNote_11 : decode b_M_takesNote 11 = .ok (.getfield 7, 3) := by decide +kernel
theorem d_M_takesNote_14 : decode b_M_takesNote 14 = .ok (.iconst 1, 1) := by decide +kernel
theorem d_M_takesNote_15 : decode b_M_takesNote 15 = .ok (.isub, 1) := by decide +kernel
theorem d_M_takesNote_16 : decode b_M_takesNote 16 = .ok (.putfield 7, 3) := by decide +kernel
theorem d_M_takesNote_19 : decode b_M_takesNote 19 = .ok (.aload_n 0, 1) := by decide +kernel
theorem d_M_takesNote_20 : decode b_M_takesNote 20 = .ok (.dup, 1) := by decide +kernel
theorem d_M_takesNote_21 : decode b_M_takesNote 21 = .ok (.getfield 45, 3) := by decide +kernel
theorem d_M_takesNote_24 : decode b_M_takesNote 24 = .ok (.iconst 1, 1) := by decide +kernel
theorem d_M_takesNote_25 : decode b_M_takesNote 25 = .ok (.iadd, 1) := by decide +kernel
theorem d_M_takesNote_26 : decode b_M_takesNote 26 = .ok (.putfield 45, 3) := by decide +kernel
theorem d_M_takesNote_29 : decode b_M_takesNote 29 = .ok (.iconst 1, 1) := by decide +kernel
theorem d_M_takesNote_30 : decode b_M_takesNote 30 = .ok (.ireturn, 1) := by decide +kernel
theorem d_M_leave_0 : decode b_M_leave 0 = .ok (.aload_n 0, 1) := by decide +kernel
theorem d_M_leave_1 : decode b_M_leave 1 = .ok (.iload_n 1, 1) := by decide +kernel
theorem d_M_leave_2 : decode b_M_leave 2 = .ok (.invokestatic 69, 3) := by decide +kernel
theorem d_M_leave_5 : decode b_M_leave 5 = .ok (.ifCond .eq 14, 3) := by decide +kernel
theorem d_M_leave_8 : decode b_M_leave 8 = .ok (.iload_n 2, 1) := by decide +kernel
theorem d_M_leave_9 : decode b_M_leave 9 = .ok (.invokestatic 69, 3) := by decide +kernel
theorem d_M_leave_12 : decode b_M_leave 12 = .ok (.ifCond .eq 7, 3) := by decide +kernel
theorem d_M_leave_15 : decode b_M_leave 15 = .ok (.iconst 1, 1) := by decide +kernel
theorem d_M_leave_16 : decode b_M_leave 16 = .ok (.goto 4, 3) := by decide +kernel
theorem d_M_leave_19 : decode b_M_leave 19 = .ok (.iconst 0, 1) := by decide +kernel
theorem d_M_leave_20 : decode b_M_leave 20 = .ok (.invokevirtual 73, 3) := by decide +kernel
theorem d_M_leave_23 : decode b_M_leave 23 = .ok (.ifCond .ne 5, 3) := by decide +kernel
theorem d_M_leave_26 : decode b_M_leave 26 = .ok (.iconst 0, 1) := by decide +kernel
theorem d_M_leave_27 : decode b_M_leave 27 = .ok (.ireturn, 1) := by decide +kernel
theorem d_M_leave_28 : decode b_M_leave 28 = .ok (.aload_n 0, 1) := by decide +kernel
theorem d_M_leave_29 : decode b_M_leave 29 = .ok (.getfield 23, 3) := by decide +kernel
theorem d_M_leave_32 : decode b_M_leave 32 = .ok (.bipush 8, 2) := by decide +kernel
theorem d_M_leave_34 : decode b_M_leave 34 = .ok (.iload_n 1, 1) := by decide +kernel
theorem d_M_leave_35 : decode b_M_leave 35 = .ok (.imul, 1) := by decide +kernel
theorem d_M_leave_36 : decode b_M_leave 36 = .ok (.iload_n 2, 1) := by decide +kernel
theorem d_M_leave_37 : decode b_M_leave 37 = .ok (.iadd, 1) := by decide +kernel
theorem d_M_leave_38 : decode b_M_leave 38 = .ok (.baload, 1) := by decide +kernel
theorem d_M_leave_39 : decode b_M_leave 39 = .ok (.ifCond .ne 6, 3) := by decide +kernel
theorem d_M_leave_42 : decode b_M_leave 42 = .ok (.bipush (-8), 2) := by decide +kernel
theorem d_M_leave_44 : decode b_M_leave 44 = .ok (.ireturn, 1) := by decide +kernel
theorem d_M_leave_45 : decode b_M_leave 45 = .ok (.aload_n 0, 1) := by decide +kernel
theorem d_M_leave_46 : decode b_M_leave 46 = .ok (.getfield 23, 3) := by decide +kernel
theorem d_M_leave_49 : decode b_M_leave 49 = .ok (.bipush 8, 2) := by decide +kernel
theorem d_M_leave_51 : decode b_M_leave 51 = .ok (.iload_n 1, 1) := by decide +kernel
theorem d_M_leave_52 : decode b_M_leave 52 = .ok (.imul, 1) := by decide +kernel
theorem d_M_leave_53 : decode b_M_leave 53 = .ok (.iload_n 2, 1) := by decide +kernel
theorem d_M_leave_54 : decode b_M_leave 54 = .ok (.iadd, 1) := by decide +kernel
theorem d_M_leave_55 : decode b_M_leave 55 = .ok (.iconst 0, 1) := by decide +kernel
theorem d_M_leave_56 : decode b_M_leave 56 = .ok (.bastore, 1) := by decide +kernel
theorem d_M_leave_57 : decode b_M_leave 57 = .ok (.aload_n 0, 1) := by decide +kernel
theorem d_M_leave_58 : decode b_M_leave 58 = .ok (.getfield 27, 3) := by decide +kernel
theorem d_M_leave_61 : decode b_M_leave 61 = .ok (.bipush 8, 2) := by decide +kernel
theorem d_M_leave_63 : decode b_M_leave 63 = .ok (.iload_n 1, 1) := by decide +kernel
theorem d_M_leave_64 : decode b_M_leave 64 = .ok (.imul, 1) := by decide +kernel
theorem d_M_leave_65 : decode b_M_leave 65 = .ok (.iload_n 2, 1) := by decide +kernel
theorem d_M_leave_66 : decode b_M_leave 66 = .ok (.iadd, 1) := by decide +kernel
theorem d_M_leave_67 : decode b_M_leave 67 = .ok (.iconst 0, 1) := by decide +kernel
theorem d_M_leave_68 : decode b_M_leave 68 = .ok (.bastore, 1) := by decide +kernel
theorem d_M_leave_69 : decode b_M_leave 69 = .ok (.aload_n 0, 1) := by decide +kernel
theorem d_M_leave_70 : decode b_M_leave 70 = .ok (.iload_n 1, 1) := by decide +kernel
theorem d_M_leave_71 : decode b_M_leave 71 = .ok (.invokevirtual 80, 3) := by decide +kernel
theorem d_M_leave_74 : decode b_M_leave 74 = .ok (.aload_n 0, 1) := by decide +kernel
theorem d_M_leave_75 : decode b_M_leave 75 = .ok (.iload_n 1, 1) := by decide +kernel
theorem d_M_leave_76 : decode b_M_leave 76 = .ok (.invokevirtual 77, 3) := by decide +kernel
theorem d_M_leave_79 : decode b_M_leave 79 = .ok (.iconst 1, 1) := by decide +kernel
theorem d_M_leave_80 : decode b_M_leave 80 = .ok (.ireturn, 1) := by decide +kernel
theorem d_M_without_0 : decode b_M_without 0 = .ok (.aload_n 0, 1) := by decide +kernel
theorem d_M_without_1 : decode b_M_without 1 = .ok (.iload_n 1, 1) := by decide +kernel
theorem d_M_without_2 : decode b_M_without 2 = .ok (.invokevirtual 51, 3) := by decide +kernel
theorem d_M_without_5 : decode b_M_without 5 = .ok (.ifCond .ne 11, 3) := by decide +kernel
theorem d_M_without_8 : decode b_M_without 8 = .ok (.aload_n 0, 1) := by decide +kernel
theorem d_M_without_9 : decode b_M_without 9 = .ok (.iload_n 1, 1) := by decide +kernel
theorem d_M_without_10 : decode b_M_without 10 = .ok (.invokevirtual 58, 3) := by decide +kernel
theorem d_M_without_13 : decode b_M_without 13 = .ok (.goto 18, 3) := by decide +kernel
theorem d_M_without_16 : decode b_M_without 16 = .ok (.aload_n 0, 1) := by decide +kernel
theorem d_M_without_17 : decode b_M_without 17 = .ok (.getfield 13, 3) := by decide +kernel
theorem d_M_without_20 : decode b_M_without 20 = .ok (.iload_n 1, 1) := by decide +kernel
theorem d_M_without_21 : decode b_M_without 21 = .ok (.iaload, 1) := by decide +kernel
theorem d_M_without_22 : decode b_M_without 22 = .ok (.iconst 2, 1) := by decide +kernel
theorem d_M_without_23 : decode b_M_without 23 = .ok (.if_icmp .ne 8, 3) := by decide +kernel
theorem d_M_without_26 : decode b_M_without 26 = .ok (.aload_n 0, 1) := by decide +kernel
theorem d_M_without_27 : decode b_M_without 27 = .ok (.iload_n 1, 1) := by decide +kernel
theorem d_M_without_28 : decode b_M_without 28 = .ok (.invokevirtual 66, 3) := by decide +kernel
theorem d_M_without_31 : decode b_M_without 31 = .ok (.return_, 1) := by decide +kernel
theorem d_M_beat_0 : decode b_M_beat 0 = .ok (.aload_n 0, 1) := by decide +kernel
theorem d_M_beat_1 : decode b_M_beat 1 = .ok (.iload_n 1, 1) := by decide +kernel
theorem d_M_beat_2 : decode b_M_beat 2 = .ok (.invokestatic 69, 3) := by decide +kernel
theorem d_M_beat_5 : decode b_M_beat 5 = .ok (.ifCond .eq 14, 3) := by decide +kernel
theorem d_M_beat_8 : decode b_M_beat 8 = .ok (.iload_n 2, 1) := by decide +kernel
theorem d_M_beat_9 : decode b_M_beat 9 = .ok (.invokestatic 69, 3) := by decide +kernel
theorem d_M_beat_12 : decode b_M_beat 12 = .ok (.ifCond .eq 7, 3) := by decide +kernel
theorem d_M_beat_15 : decode b_M_beat 15 = .ok (.iconst 1, 1) := by decide +kernel
theorem d_M_beat_16 : decode b_M_beat 16 = .ok (.goto 4, 3) := by decide +kernel
theorem d_M_beat_19 : decode b_M_beat 19 = .ok (.iconst 0, 1) := by decide +kernel
theorem d_M_beat_20 : decode b_M_beat 20 = .ok (.invokevirtual 73, 3) := by decide +kernel
theorem d_M_beat_23 : decode b_M_beat 23 = .ok (.ifCond .ne 5, 3) := by decide +kernel
theorem d_M_beat_26 : decode b_M_beat 26 = .ok (.iconst 0, 1) := by decide +kernel
theorem d_M_beat_27 : decode b_M_beat 27 = .ok (.ireturn, 1) := by decide +kernel
theorem d_M_beat_28 : decode b_M_beat 28 = .ok (.aload_n 0, 1) := by decide +kernel
theorem d_M_beat_29 : decode b_M_beat 29 = .ok (.getfield 23, 3) := by decide +kernel
theorem d_M_beat_32 : decode b_M_beat 32 = .ok (.bipush 8, 2) := by decide +kernel
theorem d_M_beat_34 : decode b_M_beat 34 = .ok (.iload_n 1, 1) := by decide +kernel
theorem d_M_beat_35 : decode b_M_beat 35 = .ok (.imul, 1) := by decide +kernel
theorem d_M_beat_36 : decode b_M_beat 36 = .ok (.iload_n 2, 1) := by decide +kernel
theorem d_M_beat_37 : decode b_M_beat 37 = .ok (.iadd, 1) := by decide +kernel
theorem d_M_beat_38 : decode b_M_beat 38 = .ok (.baload, 1) := by decide +kernel
theorem d_M_beat_39 : decode b_M_beat 39 = .ok (.ifCond .eq 13, 3) := by decide +kernel
theorem d_M_beat_42 : decode b_M_beat 42 = .ok (.iload_n 3, 1) := by decide +kernel
theorem d_M_beat_43 : decode b_M_beat 43 = .ok (.aload_n 0, 1) := by decide +kernel
theorem d_M_beat_44 : decode b_M_beat 44 = .ok (.getfield 17, 3) := by decide +kernel
theorem d_M_beat_47 : decode b_M_beat 47 = .ok (.iload_n 1, 1) := by decide +kernel
theorem d_M_beat_48 : decode b_M_beat 48 = .ok (.iaload, 1) := by decide +kernel
theorem d_M_beat_49 : decode b_M_beat 49 = .ok (.if_icmp .eq 25, 3) := by decide +kernel
theorem d_M_beat_52 : decode b_M_beat 52 = .ok (.aload_n 0, 1) := by decide +kernel
theorem d_M_beat_53 : decode b_M_beat 53 = .ok (.getfield 23, 3) := by decide +kernel
theorem d_M_beat_56 : decode b_M_beat 56 = .ok (.bipush 8, 2) := by decide +kernel
theorem d_M_beat_58 : decode b_M_beat 58 = .ok (.iload_n 1, 1) := by decide +kernel
theorem d_M_beat_59 : decode b_M_beat 59 = .ok (.imul, 1) := by decide +kernel
theorem d_M_beat_60 : decode b_M_beat 60 = .ok (.iload_n 2, 1) := by decide +kernel
theorem d_M_beat_61 : decode b_M_beat 61 = .ok (.iadd, 1) := by decide +kernel
theorem d_M_beat_62 : decode b_M_beat 62 = .ok (.baload, 1) := by decide +kernel
theorem d_M_beat_63 : decode b_M_beat 63 = .ok (.ifCond .eq 8, 3) := by decide +kernel
theorem d_M_beat_66 : decode b_M_beat 66 = .ok (.bipush (-9), 2) := by decide +kernel
theorem d_M_beat_68 : decode b_M_beat 68 = .ok (.goto 5, 3) := by decide +kernel
theorem d_M_beat_71 : decode b_M_beat 71 = .ok (.bipush (-8), 2) := by decide +kernel
theorem d_M_beat_73 : decode b_M_beat 73 = .ok (.ireturn, 1) := by decide +kernel
theorem d_M_beat_74 : decode b_M_beat 74 = .ok (.aload_n 0, 1) := by decide +kernel
theorem d_M_beat_75 : decode b_M_beat 75 = .ok (.getfield 30, 3) := by decide +kernel
theorem d_M_beat_78 : decode b_M_beat 78 = .ok (.bipush 8, 2) := by decide +kernel
theorem d_M_beat_80 : decode b_M_beat 80 = .ok (.iload_n 1, 1) := by decide +kernel
theorem d_M_beat_81 : decode b_M_beat 81 = .ok (.imul, 1) := by decide +kernel
theorem d_M_beat_82 : decode b_M_beat 82 = .ok (.iload_n 2, 1) := by decide +kernel
theorem d_M_beat_83 : decode b_M_beat 83 = .ok (.iadd, 1) := by decide +kernel
theorem d_M_beat_84 : decode b_M_beat 84 = .ok (.aload_n 0, 1) := by decide +kernel
theorem d_M_beat_85 : decode b_M_beat 85 = .ok (.getfield 48, 3) := by decide +kernel
theorem d_M_beat_88 : decode b_M_beat 88 = .ok (.iastore, 1) := by decide +kernel
theorem d_M_beat_89 : decode b_M_beat 89 = .ok (.aload_n 0, 1) := by decide +kernel
theorem d_M_beat_90 : decode b_M_beat 90 = .ok (.getfield 13, 3) := by decide +kernel
theorem d_M_beat_93 : decode b_M_beat 93 = .ok (.iload_n 1, 1) := by decide +kernel
theorem d_M_beat_94 : decode b_M_beat 94 = .ok (.iaload, 1) := by decide +kernel
theorem d_M_beat_95 : decode b_M_beat 95 = .ok (.iconst 1, 1) := by decide +kernel
theorem d_M_beat_96 : decode b_M_beat 96 = .ok (.if_icmp .ne 21, 3) := by decide +kernel
theorem d_M_beat_99 : decode b_M_beat 99 = .ok (.aload_n 0, 1) := by decide +kernel
theorem d_M_beat_100 : decode b_M_beat 100 = .ok (.getfield 27, 3) := by decide +kernel
theorem d_M_beat_103 : decode b_M_beat 103 = .ok (.bipush 8, 2) := by decide +kernel
theorem d_M_beat_105 : decode b_M_beat 105 = .ok (.iload_n 1, 1) := by decide +kernel
theorem d_M_beat_106 : decode b_M_beat 106 = .ok (.imul, 1) := by decide +kernel
theorem d_M_beat_107 : decode b_M_beat 107 = .ok (.iload_n 2, 1) := by decide +kernel
theorem d_M_beat_108 : decode b_M_beat 108 = .ok (.iadd, 1) := by decide +kernel
theorem d_M_beat_109 : decode b_M_beat 109 = .ok (.baload, 1) := by decide +kernel
theorem d_M_beat_110 : decode b_M_beat 110 = .ok (.ifCond .ne 7, 3) := by decide +kernel
theorem d_M_beat_113 : decode b_M_beat 113 = .ok (.iconst 1, 1) := by decide +kernel
theorem d_M_beat_114 : decode b_M_beat 114 = .ok (.goto 4, 3) := by decide +kernel
theorem d_M_beat_117 : decode b_M_beat 117 = .ok (.iconst 0, 1) := by decide +kernel
theorem d_M_beat_118 : decode b_M_beat 118 = .ok (.ireturn, 1) := by decide +kernel
theorem d_M_commit_0 : decode b_M_commit 0 = .ok (.aload_n 0, 1) := by decide +kernel
theorem d_M_commit_1 : decode b_M_commit 1 = .ok (.iload_n 1, 1) := by decide +kernel
theorem d_M_commit_2 : decode b_M_commit 2 = .ok (.invokestatic 69, 3) := by decide +kernel
theorem d_M_commit_5 : decode b_M_commit 5 = .ok (.ifCond .eq 35, 3) := by decide +kernel
theorem d_M_commit_8 : decode b_M_commit 8 = .ok (.iload_n 2, 1) := by decide +kernel
theorem d_M_commit_9 : decode b_M_commit 9 = .ok (.invokestatic 69, 3) := by decide +kernel
theorem d_M_commit_12 : decode b_M_commit 12 = .ok (.ifCond .eq 28, 3) := by decide +kernel
theorem d_M_commit_15 : decode b_M_commit 15 = .ok (.iload 4, 2) := by decide +kernel
theorem d_M_commit_17 : decode b_M_commit 17 = .ok (.ifCond .lt 23, 3) := by decide +kernel
theorem d_M_commit_20 : decode b_M_commit 20 = .ok (.iload 4, 2) := by decide +kernel
theorem d_M_commit_22 : decode b_M_commit 22 = .ok (.aload_n 0, 1) := by decide +kernel
theorem d_M_commit_23 : decode b_M_commit 23 = .ok (.getfield 37, 3) := by decide +kernel
theorem d_M_commit_26 : decode b_M_commit 26 = .ok (.if_icmp .ge 14, 3) := by decide +kernel
theorem d_M_commit_29 : decode b_M_commit 29 = .ok (.lload 5, 2) := by decide +kernel
theorem d_M_commit_31 : decode b_M_commit 31 = .ok (.lconst 0, 1) := by decide +kernel
theorem d_M_commit_32 : decode b_M_commit 32 = .ok (.lcmp, 1) := by decide +kernel
theorem d_M_commit_33 : decode b_M_commit 33 = .ok (.ifCond .lt 7, 3) := by decide +kernel
theorem d_M_commit_36 : decode b_M_commit 36 = .ok (.iconst 1, 1) := by decide +kernel
theorem d_M_commit_37 : decode b_M_commit 37 = .ok (.goto 4, 3) := by decide +kernel
theorem d_M_commit_40 : decode b_M_commit 40 = .ok (.iconst 0, 1) := by decide +kernel
theorem d_M_commit_41 : decode b_M_commit 41 = .ok (.invokevirtual 73, 3) := by decide +kernel
theorem d_M_commit_44 : decode b_M_commit 44 = .ok (.ifCond .ne 5, 3) := by decide +kernel
theorem d_M_commit_47 : decode b_M_commit 47 = .ok (.iconst 0, 1) := by decide +kernel
theorem d_M_commit_48 : decode b_M_commit 48 = .ok (.ireturn, 1) := by decide +kernel
theorem d_M_commit_49 : decode b_M_commit 49 = .ok (.aload_n 0, 1) := by decide +kernel
theorem d_M_commit_50 : decode b_M_commit 50 = .ok (.getfield 23, 3) := by decide +kernel
theorem d_M_commit_53 : decode b_M_commit 53 = .ok (.bipush 8, 2) := by decide +kernel
theorem d_M_commit_55 : decode b_M_commit 55 = .ok (.iload_n 1, 1) := by decide +kernel
theorem d_M_commit_56 : decode b_M_commit 56 = .ok (.imul, 1) := by decide +kernel
theorem d_M_commit_57 : decode b_M_commit 57 = .ok (.iload_n 2, 1) := by decide +kernel
theorem d_M_commit_58 : decode b_M_commit 58 = .ok (.iadd, 1) := by decide +kernel
theorem d_M_commit_59 : decode b_M_commit 59 = .ok (.baload, 1) := by decide +kernel
theorem d_M_commit_60 : decode b_M_commit 60 = .ok (.ifCond .ne 6, 3) := by decide +kernel
theorem d_M_commit_63 : decode b_M_commit 63 = .ok (.bipush (-8), 2) := by decide +kernel
theorem d_M_commit_65 : decode b_M_commit 65 = .ok (.ireturn, 1) := by decide +kernel
theorem d_M_commit_66 : decode b_M_commit 66 = .ok (.iload_n 3, 1) := by decide +kernel
theorem d_M_commit_67 : decode b_M_commit 67 = .ok (.aload_n 0, 1) := by decide +kernel
theorem d_M_commit_68 : decode b_M_commit 68 = .ok (.getfield 17, 3) := by decide +kernel
theorem d_M_commit_71 : decode b_M_commit 71 = .ok (.iload_n 1, 1) := by decide +kernel
theorem d_M_commit_72 : decode b_M_commit 72 = .ok (.iaload, 1) := by decide +kernel
theorem d_M_commit_73 : decode b_M_commit 73 = .ok (.if_icmp .eq 6, 3) := by decide +kernel
theorem d_M_commit_76 : decode b_M_commit 76 = .ok (.bipush (-9), 2) := by decide +kernel
theorem d_M_commit_78 : decode b_M_commit 78 = .ok (.ireturn, 1) := by decide +kernel
theorem d_M_commit_79 : decode b_M_commit 79 = .ok (.aload_n 0, 1) := by decide +kernel
theorem d_M_commit_80 : decode b_M_commit 80 = .ok (.getfield 13, 3) := by decide +kernel
theorem d_M_commit_83 : decode b_M_commit 83 = .ok (.iload_n 1, 1) := by decide +kernel
theorem d_M_commit_84 : decode b_M_commit 84 = .ok (.iaload, 1) := by decide +kernel
theorem d_M_commit_85 : decode b_M_commit 85 = .ok (.iconst 2, 1) := by decide +kernel
theorem d_M_commit_86 : decode b_M_commit 86 = .ok (.if_icmp .eq 6, 3) := by decide +kernel
theorem d_M_commit_89 : decode b_M_commit 89 = .ok (.bipush (-10), 2) := by decide +kernel
theorem d_M_commit_91 : decode b_M_commit 91 = .ok (.ireturn, 1) := by decide +kernel
theorem d_M_commit_92 : decode b_M_commit 92 = .ok (.aload_n 0, 1) := by decide +kernel
theorem d_M_commit_93 : decode b_M_commit 93 = .ok (.iload_n 1, 1) := by decide +kernel
theorem d_M_commit_94 : decode b_M_commit 94 = .ok (.iload 4, 2) := by decide +kernel
theorem d_M_commit_96 : decode b_M_commit 96 = .ok (.invokevirtual 83, 3) := by decide +kernel
theorem d_M_commit_99 : decode b_M_commit 99 = .ok (.iload_n 2, 1) := by decide +kernel
theorem d_M_commit_100 : decode b_M_commit 100 = .ok (.if_icmp .eq 6, 3) := by decide +kernel
theorem d_M_commit_103 : decode b_M_commit 103 = .ok (.bipush (-11), 2) := by decide +kernel
theorem d_M_commit_105 : decode b_M_commit 105 = .ok (.ireturn, 1) := by decide +kernel
theorem d_M_commit_106 : decode b_M_commit 106 = .ok (.aload_n 0, 1) := by decide +kernel
theorem d_M_commit_107 : decode b_M_commit 107 = .ok (.invokevirtual 62, 3) := by decide +kernel
theorem d_M_commit_110 : decode b_M_commit 110 = .ok (.ifCond .ne 6, 3) := by decide +kernel
theorem d_M_commit_113 : decode b_M_commit 113 = .ok (.bipush (-2), 2) := by decide +kernel
theorem d_M_commit_115 : decode b_M_commit 115 = .ok (.ireturn, 1) := by decide +kernel
theorem d_M_commit_116 : decode b_M_commit 116 = .ok (.aload_n 0, 1) := by decide +kernel
theorem d_M_commit_117 : decode b_M_commit 117 = .ok (.getfield 33, 3) := by decide +kernel
theorem d_M_commit_120 : decode b_M_commit 120 = .ok (.bipush 8, 2) := by decide +kernel
theorem d_M_commit_122 : decode b_M_commit 122 = .ok (.iload_n 1, 1) := by decide +kernel
theorem d_M_commit_123 : decode b_M_commit 123 = .ok (.imul, 1) := by decide +kernel
theorem d_M_commit_124 : decode b_M_commit 124 = .ok (.iload 4, 2) := by decide +kernel
theorem d_M_commit_126 : decode b_M_commit 126 = .ok (.iadd, 1) := by decide +kernel
theorem d_M_commit_127 : decode b_M_commit 127 = .ok (.lload 5, 2) := by decide +kernel
theorem d_M_commit_129 : decode b_M_commit 129 = .ok (.lastore, 1) := by decide +kernel
theorem d_M_commit_130 : decode b_M_commit 130 = .ok (.aload_n 0, 1) := by decide +kernel
theorem d_M_commit_131 : decode b_M_commit 131 = .ok (.getfield 30, 3) := by decide +kernel
theorem d_M_commit_134 : decode b_M_commit 134 = .ok (.bipush 8, 2) := by decide +kernel
theorem d_M_commit_136 : decode b_M_commit 136 = .ok (.iload_n 1, 1) := by decide +kernel
theorem d_M_commit_137 : decode b_M_commit 137 = .ok (.imul, 1) := by decide +kernel
theorem d_M_commit_138 : decode b_M_commit 138 = .ok (.iload_n 2, 1) := by decide +kernel
theorem d_M_commit_139 : decode b_M_commit 139 = .ok (.iadd, 1) := by decide +kernel
theorem d_M_commit_140 : decode b_M_commit 140 = .ok (.aload_n 0, 1) := by decide +kernel
theorem d_M_commit_141 : decode b_M_commit 141 = .ok (.getfield 48, 3) := by decide +kernel
theorem d_M_commit_144 : decode b_M_commit 144 = .ok (.iastore, 1) := by decide +kernel
theorem d_M_commit_145 : decode b_M_commit 145 = .ok (.iconst 0, 1) := by decide +kernel
theorem d_M_commit_146 : decode b_M_commit 146 = .ok (.ireturn, 1) := by decide +kernel
theorem d_M_owner_0 : decode b_M_owner 0 = .ok (.iconst (-1), 1) := by decide +kernel
theorem d_M_owner_1 : decode b_M_owner 1 = .ok (.istore_n 3, 1) := by decide +kernel
theorem d_M_owner_2 : decode b_M_owner 2 = .ok (.iconst 0, 1) := by decide +kernel
theorem d_M_owner_3 : decode b_M_owner 3 = .ok (.istore 4, 2) := by decide +kernel
theorem d_M_owner_5 : decode b_M_owner 5 = .ok (.iload 4, 2) := by decide +kernel
theorem d_M_owner_7 : decode b_M_owner 7 = .ok (.iload_n 2, 1) := by decide +kernel
theorem d_M_owner_8 : decode b_M_owner 8 = .ok (.if_icmp .gt 35, 3) := by decide +kernel
theorem d_M_owner_11 : decode b_M_owner 11 = .ok (.iinc 3 1, 3) := by decide +kernel
theorem d_M_owner_14 : decode b_M_owner 14 = .ok (.aload_n 0, 1) := by decide +kernel
theorem d_M_owner_15 : decode b_M_owner 15 = .ok (.getfield 23, 3) := by decide +kernel
theorem d_M_owner_18 : decode b_M_owner 18 = .ok (.bipush 8, 2) := by decide +kernel
theorem d_M_owner_20 : decode b_M_owner 20 = .ok (.iload_n 1, 1) := by decide +kernel
theorem d_M_owner_21 : decode b_M_owner 21 = .ok (.imul, 1) := by decide +kernel
theorem d_M_owner_22 : decode b_M_owner 22 = .ok (.iload_n 3, 1) := by decide +kernel
theorem d_M_owner_23 : decode b_M_owner 23 = .ok (.bipush 8, 2) := by decide +kernel
theorem d_M_owner_25 : decode b_M_owner 25 = .ok (.irem, 1) := by decide +kernel
theorem d_M_owner_26 : decode b_M_owner 26 = .ok (.iadd, 1) := by decide +kernel
theorem d_M_owner_27 : decode b_M_owner 27 = .ok (.baload, 1) := by decide +kernel
theorem d_M_owner_28 : decode b_M_owner 28 = .ok (.ifCond .ne 9, 3) := by decide +kernel
theorem d_M_owner_31 : decode b_M_owner 31 = .ok (.iinc 3 1, 3) := by decide +kernel
theorem d_M_owner_34 : decode b_M_owner 34 = .ok (.goto (-20), 3) := by decide +kernel
theorem d_M_owner_37 : decode b_M_owner 37 = .ok (.iinc 4 1, 3) := by decide +kernel
theorem d_M_owner_40 : decode b_M_owner 40 = .ok (.goto (-35), 3) := by decide +kernel
theorem d_M_owner_43 : decode b_M_owner 43 = .ok (.iload_n 3, 1) := by decide +kernel
theorem d_M_owner_44 : decode b_M_owner 44 = .ok (.bipush 8, 2) := by decide +kernel
theorem d_M_owner_46 : decode b_M_owner 46 = .ok (.irem, 1) := by decide +kernel
theorem d_M_owner_47 : decode b_M_owner 47 = .ok (.ireturn, 1) := by decide +kernel
theorem d_M_committed_0 : decode b_M_committed 0 = .ok (.aload_n 0, 1) := by decide +kernel
theorem d_M_committed_1 : decode b_M_committed 1 = .ok (.iload_n 1, 1) := by decide +kernel
theorem d_M_committed_2 : decode b_M_committed 2 = .ok (.invokestatic 69, 3) := by decide +kernel
theorem d_M_committed_5 : decode b_M_committed 5 = .ok (.ifCond .eq 19, 3) := by decide +kernel
theorem d_M_committed_8 : decode b_M_committed 8 = .ok (.iload_n 2, 1) := by decide +kernel
theorem d_M_committed_9 : decode b_M_committed 9 = .ok (.ifCond .lt 15, 3) := by decide +kernel
theorem d_M_committed_12 : decode b_M_committed 12 = .ok (.iload_n 2, 1) := by decide +kernel
theorem d_M_committed_13 : decode b_M_committed 13 = .ok (.aload_n 0, 1) := by decide +kernel
theorem d_M_committed_14 : decode b_M_committed 14 = .ok (.getfield 37, 3) := by decide +kernel
theorem d_M_committed_17 : decode b_M_committed 17 = .ok (.if_icmp .ge 7, 3) := by decide +kernel
theorem d_M_committed_20 : decode b_M_committed 20 = .ok (.iconst 0, 1) := by decide +kernel
theorem d_M_committed_21 : decode b_M_committed 21 = .ok (.goto 4, 3) := by decide +kernel
theorem d_M_committed_24 : decode b_M_committed 24 = .ok (.iconst 1, 1) := by decide +kernel
theorem d_M_committed_25 : decode b_M_committed 25 = .ok (.putfield 42, 3) := by decide +kernel
theorem d_M_committed_28 : decode b_M_committed 28 = .ok (.aload_n 0, 1) := by decide +kernel
theorem d_M_committed_29 : decode b_M_committed 29 = .ok (.getfield 42, 3) := by decide +kernel
theorem d_M_committed_32 : decode b_M_committed 32 = .ok (.ifCond .le 7, 3) := by decide +kernel
theorem d_M_committed_35 : decode b_M_committed 35 = .ok (.lconst 0, 1) := by decide +kernel
theorem d_M_committed_36 : decode b_M_committed 36 = .ok (.goto 14, 3) := by decide +kernel
theorem d_M_committed_39 : decode b_M_committed 39 = .ok (.aload_n 0, 1) := by decide +kernel
theorem d_M_committed_40 : decode b_M_committed 40 = .ok (.getfield 33, 3) := by decide +kernel
theorem d_M_committed_43 : decode b_M_committed 43 = .ok (.bipush 8, 2) := by decide +kernel
theorem d_M_committed_45 : decode b_M_committed 45 = .ok (.iload_n 1, 1) := by decide +kernel
theorem d_M_committed_46 : decode b_M_committed 46 = .ok (.imul, 1) := by decide +kernel
theorem d_M_committed_47 : decode b_M_committed 47 = .ok (.iload_n 2, 1) := by decide +kernel
theorem d_M_committed_48 : decode b_M_committed 48 = .ok (.iadd, 1) := by decide +kernel
theorem d_M_committed_49 : decode b_M_committed 49 = .ok (.laload, 1) := by decide +kernel
theorem d_M_committed_50 : decode b_M_committed 50 = .ok (.lreturn, 1) := by decide +kernel
theorem d_M_group_0 : decode b_M_group 0 = .ok (.aload_n 0, 1) := by decide +kernel
theorem d_M_group_1 : decode b_M_group 1 = .ok (.iload_n 1, 1) := by decide +kernel
theorem d_M_group_2 : decode b_M_group 2 = .ok (.invokestatic 69, 3) := by decide +kernel
theorem d_M_group_5 : decode b_M_group 5 = .ok (.ifCond .eq 16, 3) := by decide +kernel
theorem d_M_group_8 : decode b_M_group 8 = .ok (.iload_n 2, 1) := by decide +kernel
theorem d_M_group_9 : decode b_M_group 9 = .ok (.ifCond .lt 12, 3) := by decide +kernel
theorem d_M_group_12 : decode b_M_group 12 = .ok (.iload_n 2, 1) := by decide +kernel
theorem d_M_group_13 : decode b_M_group 13 = .ok (.iconst 4, 1) := by decide +kernel
theorem d_M_group_14 : decode b_M_group 14 = .ok (.if_icmp .gt 7, 3) := by decide +kernel
theorem d_M_group_17 : decode b_M_group 17 = .ok (.iconst 1, 1) := by decide +kernel
theorem d_M_group_18 : decode b_M_group 18 = .ok (.goto 4, 3) := by decide +kernel
theorem d_M_group_21 : decode b_M_group 21 = .ok (.iconst 0, 1) := by decide +kernel
theorem d_M_group_22 : decode b_M_group 22 = .ok (.invokevirtual 73, 3) := by decide +kernel
theorem d_M_group_25 : decode b_M_group 25 = .ok (.ifCond .ne 5, 3) := by decide +kernel
theorem d_M_group_28 : decode b_M_group 28 = .ok (.iconst 0, 1) := by decide +kernel
theorem d_M_group_29 : decode b_M_group 29 = .ok (.ireturn, 1) := by decide +kernel
theorem d_M_group_30 : decode b_M_group 30 = .ok (.iload_n 2, 1) := by decide +kernel
theorem d_M_group_31 : decode b_M_group 31 = .ok (.iconst 2, 1) := by decide +kernel
theorem d_M_group_32 : decode b_M_group 32 = .ok (.if_icmp .ge 23, 3) := by decide +kernel
theorem d_M_group_35 : decode b_M_group 35 = .ok (.iload_n 2, 1) := by decide +kernel
theorem d_M_group_36 : decode b_M_group 36 = .ok (.ifCond .ne 12, 3) := by decide +kernel
theorem d_M_group_39 : decode b_M_group 39 = .ok (.aload_n 0, 1) := by decide +kernel
theorem d_M_group_40 : decode b_M_group 40 = .ok (.getfield 17, 3) := by decide +kernel
theorem d_M_group_43 : decode b_M_group 43 = .ok (.iload_n 1, 1) := by decide +kernel
theorem d_M_group_44 : decode b_M_group 44 = .ok (.iaload, 1) := by decide +kernel
theorem d_M_group_45 : decode b_M_group 45 = .ok (.goto 9, 3) := by decide +kernel
theorem d_M_group_48 : decode b_M_group 48 = .ok (.aload_n 0, 1) := by decide +kernel
theorem d_M_group_49 : decode b_M_group 49 = .ok (.getfield 13, 3) := by decide +kernel
theorem d_M_group_52 : decode b_M_group 52 = .ok (.iload_n 1, 1) := by decide +kernel
theorem d_M_group_53 : decode b_M_group 53 = .ok (.iaload, 1) := by decide +kernel
theorem d_M_group_54 : decode b_M_group 54 = .ok (.ireturn, 1) := by decide +kernel
theorem d_M_group_55 : decode b_M_group 55 = .ok (.iload_n 2, 1) := by decide +kernel
theorem d_M_group_56 : decode b_M_group 56 = .ok (.iconst 4, 1) := by decide +kernel
theorem d_M_group_57 : decode b_M_group 57 = .ok (.if_icmp .ne 42, 3) := by decide +kernel
theorem d_M_group_60 : decode b_M_group 60 = .ok (.aload_n 0, 1) := by decide +kernel
theorem d_M_group_61 : decode b_M_group 61 = .ok (.getfield 13, 3) := by decide +kernel
theorem d_M_group_64 : decode b_M_group 64 = .ok (.iload_n 1, 1) := by decide +kernel
theorem d_M_group_65 : decode b_M_group 65 = .ok (.iaload, 1) := by decide +kernel
theorem d_M_group_66 : decode b_M_group 66 = .ok (.iconst 1, 1) := by decide +kernel
theorem d_M_group_67 : decode b_M_group 67 = .ok (.if_icmp .ne 30, 3) := by decide +kernel
theorem d_M_group_70 : decode b_M_group 70 = .ok (.aload_n 0, 1) := by decide +kernel
theorem d_M_group_71 : decode b_M_group 71 = .ok (.getfield 20, 3) := by decide +kernel
theorem d_M_group_74 : decode b_M_group 74 = .ok (.iload_n 1, 1) := by decide +kernel
theorem d_M_group_75 : decode b_M_group 75 = .ok (.iaload, 1) := by decide +kernel
theorem d_M_group_76 : decode b_M_group 76 = .ok (.aload_n 0, 1) := by decide +kernel
theorem d_M_group_77 : decode b_M_group 77 = .ok (.getfield 48, 3) := by decide +kernel
theorem d_M_group_80 : decode b_M_group 80 = .ok (.if_icmp .le 17, 3) := by decide +kernel
theorem d_M_group_83 : decode b_M_group 83 = .ok (.aload_n 0, 1) := by decide +kernel
theorem d_M_group_84 : decode b_M_group 84 = .ok (.getfield 20, 3) := by decide +kernel
theorem d_M_group_87 : decode b_M_group 87 = .ok (.iload_n 1, 1) := by decide +kernel
theorem d_M_group_88 : decode b_M_group 88 = .ok (.iaload, 1) := by decide +kernel
theorem d_M_group_89 : decode b_M_group 89 = .ok (.aload_n 0, 1) := by decide +kernel
theorem d_M_group_90 : decode b_M_group 90 = .ok (.getfield 48, 3) := by decide +kernel
theorem d_M_group_93 : decode b_M_group 93 = .ok (.isub, 1) := by decide +kernel
theorem d_M_group_94 : decode b_M_group 94 = .ok (.goto 4, 3) := by decide +kernel
theorem d_M_group_97 : decode b_M_group 97 = .ok (.iconst 0, 1) := by decide +kernel
theorem d_M_group_98 : decode b_M_group 98 = .ok (.ireturn, 1) := by decide +kernel
theorem d_M_group_99 : decode b_M_group 99 = .ok (.iconst 0, 1) := by decide +kernel
theorem d_M_group_100 : decode b_M_group 100 = .ok (.istore_n 3, 1) := by decide +kernel
theorem d_M_group_101 : decode b_M_group 101 = .ok (.bipush 7, 2) := by decide +kernel
theorem d_M_group_103 : decode b_M_group 103 = .ok (.istore 4, 2) := by decide +kernel
theorem d_M_group_105 : decode b_M_group 105 = .ok (.iload 4, 2) := by decide +kernel
theorem d_M_group_107 : decode b_M_group 107 = .ok (.ifCond .lt 76, 3) := by decide +kernel
theorem d_M_group_110 : decode b_M_group 110 = .ok (.aload_n 0, 1) := by decide +kernel
theorem d_M_group_111 : decode b_M_group 111 = .ok (.getfield 23, 3) := by decide +kernel
theorem d_M_group_114 : decode b_M_group 114 = .ok (.bipush 8, 2) := by decide +kernel
theorem d_M_group_116 : decode b_M_group 116 = .ok (.iload_n 1, 1) := by decide +kernel
theorem d_M_group_117 : decode b_M_group 117 = .ok (.imul, 1) := by decide +kernel
theorem d_M_group_118 : decode b_M_group 118 = .ok (.iload 4, 2) := by decide +kernel
theorem d_M_group_120 : decode b_M_group 120 = .ok (.iadd, 1) := by decide +kernel
theorem d_M_group_121 : decode b_M_group 121 = .ok (.baload, 1) := by decide +kernel
theorem d_M_group_122 : decode b_M_group 122 = .ok (.ifCond .eq 37, 3) := by decide +kernel
theorem d_M_group_125 : decode b_M_group 125 = .ok (.iload_n 2, 1) := by decide +kernel
theorem d_M_group_126 : decode b_M_group 126 = .ok (.iconst 2, 1) := by decide +kernel
theorem d_M_group_127 : decode b_M_group 127 = .ok (.if_icmp .eq 28, 3) := by decide +kernel
theorem d_M_group_130 : decode b_M_group 130 = .ok (.aload_n 0, 1) := by decide +kernel
theorem d_M_group_131 : decode b_M_group 131 = .ok (.getfield 13, 3) := by decide +kernel
theorem d_M_group_134 : decode b_M_group 134 = .ok (.iload_n 1, 1) := by decide +kernel
theorem d_M_group_135 : decode b_M_group 135 = .ok (.iaload, 1) := by decide +kernel
theorem d_M_group_136 : decode b_M_group 136 = .ok (.iconst 2, 1) := by decide +kernel
theorem d_M_group_137 : decode b_M_group 137 = .ok (.if_icmp .eq 18, 3) := by decide +kernel
theorem d_M_group_140 : decode b_M_group 140 = .ok (.aload_n 0, 1) := by decide +kernel
theorem d_M_group_141 : decode b_M_group 141 = .ok (.getfield 27, 3) := by decide +kernel
theorem d_M_group_144 : decode b_M_group 144 = .ok (.bipush 8, 2) := by decide +kernel
theorem d_M_group_146 : decode b_M_group 146 = .ok (.iload_n 1, 1) := by decide +kernel
theorem d_M_group_147 : decode b_M_group 147 = .ok (.imul, 1) := by decide +kernel
theorem d_M_group_148 : decode b_M_group 148 = .ok (.iload 4, 2) := by decide +kernel
theorem d_M_group_150 : decode b_M_group 150 = .ok (.iadd, 1) := by decide +kernel
theorem d_M_group_151 : decode b_M_group 151 = .ok (.baload, 1) := by decide +kernel
theorem d_M_group_152 : decode b_M_group 152 = .ok (.ifCond .eq 7, 3) := by decide +kernel
theorem d_M_group_155 : decode b_M_group 155 = .ok (.iconst 1, 1) := by decide +kernel
theorem d_M_group_156 : decode b_M_group 156 = .ok (.goto 4, 3) := by decide +kernel
theorem d_M_group_159 : decode b_M_group 159 = .ok (.iconst 0, 1) := by decide +kernel
theorem d_M_group_160 : decode b_M_group 160 = .ok (.istore 5, 2) := by decide +kernel
theorem d_M_group_162 : decode b_M_group 162 = .ok (.iconst 2, 1) := by decide +kernel
theorem d_M_group_163 : decode b_M_group 163 = .ok (.iload_n 3, 1) := by decide +kernel
theorem d_M_group_164 : decode b_M_group 164 = .ok (.imul, 1) := by decide +kernel
theorem d_M_group_165 : decode b_M_group 165 = .ok (.iload 5, 2) := by decide +kernel
theorem d_M_group_167 : decode b_M_group 167 = .ok (.ifCond .eq 7, 3) := by decide +kernel
theorem d_M_group_170 : decode b_M_group 170 = .ok (.iconst 1, 1) := by decide +kernel
theorem d_M_group_171 : decode b_M_group 171 = .ok (.goto 4, 3) := by decide +kernel
theorem d_M_group_174 : decode b_M_group 174 = .ok (.iconst 0, 1) := by decide +kernel
theorem d_M_group_175 : decode b_M_group 175 = .ok (.iadd, 1) := by decide +kernel
theorem d_M_group_176 : decode b_M_group 176 = .ok (.istore_n 3, 1) := by decide +kernel
theorem d_M_group_177 : decode b_M_group 177 = .ok (.iinc 4 (-1), 3) := by decide +kernel
theorem d_M_group_180 : decode b_M_group 180 = .ok (.goto (-75), 3) := by decide +kernel
theorem d_M_group_183 : decode b_M_group 183 = .ok (.iload_n 3, 1) := by decide +kernel
theorem d_M_group_184 : decode b_M_group 184 = .ok (.ireturn, 1) := by decide +kernel
theorem d_M_share_0 : decode b_M_share 0 = .ok (.aload_n 0, 1) := by decide +kernel
theorem d_M_share_1 : decode b_M_share 1 = .ok (.iload_n 1, 1) := by decide +kernel
theorem d_M_share_2 : decode b_M_share 2 = .ok (.invokestatic 69, 3) := by decide +kernel
theorem d_M_share_5 : decode b_M_share 5 = .ok (.ifCond .eq 14, 3) := by decide +kernel
theorem d_M_share_8 : decode b_M_share 8 = .ok (.iload_n 2, 1) := by decide +kernel
theorem d_M_share_9 : decode b_M_share 9 = .ok (.invokestatic 69, 3) := by decide +kernel
theorem d_M_share_12 : decode b_M_share 12 = .ok (.ifCond .eq 7, 3) := by decide +kernel
theorem d_M_share_15 : decode b_M_share 15 = .ok (.iconst 1, 1) := by decide +kernel
theorem d_M_share_16 : decode b_M_share 16 = .ok (.goto 4, 3) := by decide +kernel
theorem d_M_share_19 : decode b_M_share 19 = .ok (.iconst 0, 1) := by decide +kernel
theorem d_M_share_20 : decode b_M_share 20 = .ok (.invokevirtual 73, 3) := by decide +kernel
theorem d_M_share_23 : decode b_M_share 23 = .ok (.ifCond .eq 27, 3) := by decide +kernel
theorem d_M_share_26 : decode b_M_share 26 = .ok (.aload_n 0, 1) := by decide +kernel
theorem d_M_share_27 : decode b_M_share 27 = .ok (.getfield 13, 3) := by decide +kernel
theorem d_M_share_30 : decode b_M_share 30 = .ok (.iload_n 1, 1) := by decide +kernel
theorem d_M_share_31 : decode b_M_share 31 = .ok (.iaload, 1) := by decide +kernel
theorem d_M_share_32 : decode b_M_share 32 = .ok (.iconst 2, 1) := by decide +kernel
theorem d_M_share_33 : decode b_M_share 33 = .ok (.if_icmp .ne 17, 3) := by decide +kernel
theorem d_M_share_36 : decode b_M_share 36 = .ok (.aload_n 0, 1) := by decide +kernel
theorem d_M_share_37 : decode b_M_share 37 = .ok (.getfield 23, 3) := by decide +kernel
theorem d_M_share_40 : decode b_M_share 40 = .ok (.bipush 8, 2) := by decide +kernel
theorem d_M_share_42 : decode b_M_share 42 = .ok (.iload_n 1, 1) := by decide +kernel
theorem d_M_share_43 : decode b_M_share 43 = .ok (.imul, 1) := by decide +kernel
theorem d_M_share_44 : decode b_M_share 44 = .ok (.iload_n 2, 1) := by decide +kernel
theorem d_M_share_45 : decode b_M_share 45 = .ok (.iadd, 1) := by decide +kernel
theorem d_M_share_46 : decode b_M_share 46 = .ok (.baload, 1) := by decide +kernel
theorem d_M_share_47 : decode b_M_share 47 = .ok (.ifCond .ne 5, 3) := by decide +kernel
theorem d_M_share_50 : decode b_M_share 50 = .ok (.iconst 0, 1) := by decide +kernel
theorem d_M_share_51 : decode b_M_share 51 = .ok (.ireturn, 1) := by decide +kernel
theorem d_M_share_52 : decode b_M_share 52 = .ok (.iconst 0, 1) := by decide +kernel
theorem d_M_share_53 : decode b_M_share 53 = .ok (.istore_n 3, 1) := by decide +kernel
theorem d_M_share_54 : decode b_M_share 54 = .ok (.aload_n 0, 1) := by decide +kernel
theorem d_M_share_55 : decode b_M_share 55 = .ok (.getfield 37, 3) := by decide +kernel
theorem d_M_share_58 : decode b_M_share 58 = .ok (.iconst 1, 1) := by decide +kernel
theorem d_M_share_59 : decode b_M_share 59 = .ok (.isub, 1) := by decide +kernel
theorem d_M_share_60 : decode b_M_share 60 = .ok (.istore 4, 2) := by decide +kernel
theorem d_M_share_62 : decode b_M_share 62 = .ok (.iload 4, 2) := by decide +kernel
theorem d_M_share_64 : decode b_M_share 64 = .ok (.ifCond .lt 30, 3) := by decide +kernel
theorem d_M_share_67 : decode b_M_share 67 = .ok (.iconst 2, 1) := by decide +kernel
theorem d_M_share_68 : decode b_M_share 68 = .ok (.iload_n 3, 1) := by decide +kernel
theorem d_M_share_69 : decode b_M_share 69 = .ok (.imul, 1) := by decide +kernel
theorem d_M_share_70 : decode b_M_share 70 = .ok (.aload_n 0, 1) := by decide +kernel
theorem d_M_share_71 : decode b_M_share 71 = .ok (.iload_n 1, 1) := by decide +kernel
theorem d_M_share_72 : decode b_M_share 72 = .ok (.iload 4, 2) := by decide +kernel
theorem d_M_share_74 : decode b_M_share 74 = .ok (.invokevirtual 83, 3) := by decide +kernel
theorem d_M_share_77 : decode b_M_share 77 = .ok (.iload_n 2, 1) := by decide +kernel
theorem d_M_share_78 : decode b_M_share 78 = .ok (.if_icmp .ne 7, 3) := by decide +kernel
theorem d_M_share_81 : decode b_M_share 81 = .ok (.iconst 1, 1) := by decide +kernel
theorem d_M_share_82 : decode b_M_share 82 = .ok (.goto 4, 3) := by decide +kernel
theorem d_M_share_85 : decode b_M_share 85 = .ok (.iconst 0, 1) := by decide +kernel
theorem d_M_share_86 : decode b_M_share 86 = .ok (.iadd, 1) := by decide +kernel
theorem d_M_share_87 : decode b_M_share 87 = .ok (.istore_n 3, 1) := by decide +kernel
theorem d_M_share_88 : decode b_M_share 88 = .ok (.iinc 4 (-1), 3) := by decide +kernel
theorem d_M_share_91 : decode b_M_share 91 = .ok (.goto (-29), 3) := by decide +kernel
theorem d_M_share_94 : decode b_M_share 94 = .ok (.iload_n 3, 1) := by decide +kernel
theorem d_M_share_95 : decode b_M_share 95 = .ok (.ireturn, 1) := by decide +kernel
theorem d_M_room_0 : decode b_M_room 0 = .ok (.aload_n 0, 1) := by decide +kernel
theorem d_M_room_1 : decode b_M_room 1 = .ok (.iload_n 1, 1) := by decide +kernel
theorem d_M_room_2 : decode b_M_room 2 = .ok (.ifCond .lt 13, 3) := by decide +kernel
theorem d_M_room_5 : decode b_M_room 5 = .ok (.iload_n 1, 1) := by decide +kernel
theorem d_M_room_6 : decode b_M_room 6 = .ok (.ldc 87, 2) := by decide +kernel
theorem d_M_room_8 : decode b_M_room 8 = .ok (.if_icmp .gt 7, 3) := by decide +kernel
theorem d_M_room_11 : decode b_M_room 11 = .ok (.iconst 1, 1) := by decide +kernel
theorem d_M_room_12 : decode b_M_room 12 = .ok (.goto 4, 3) := by decide +kernel
theorem d_M_room_15 : decode b_M_room 15 = .ok (.iconst 0, 1) := by decide +kernel
theorem d_M_room_16 : decode b_M_room 16 = .ok (.invokevirtual 73, 3) := by decide +kernel
theorem d_M_room_19 : decode b_M_room 19 = .ok (.ifCond .ne 5, 3) := by decide +kernel
theorem d_M_room_22 : decode b_M_room 22 = .ok (.iconst 0, 1) := by decide +kernel
theorem d_M_room_23 : decode b_M_room 23 = .ok (.ireturn, 1) := by decide +kernel
theorem d_M_room_24 : decode b_M_room 24 = .ok (.aload_n 0, 1) := by decide +kernel
theorem d_M_room_25 : decode b_M_room 25 = .ok (.getfield 7, 3) := by decide +kernel
theorem d_M_room_28 : decode b_M_room 28 = .ok (.istore_n 2, 1) := by decide +kernel
theorem d_M_room_29 : decode b_M_room 29 = .ok (.aload_n 0, 1) := by decide +kernel
theorem d_M_room_30 : decode b_M_room 30 = .ok (.iload_n 1, 1) := by decide +kernel
theorem d_M_room_31 : decode b_M_room 31 = .ok (.putfield 7, 3) := by decide +kernel
theorem d_M_room_34 : decode b_M_room 34 = .ok (.iload_n 2, 1) := by decide +kernel
theorem d_M_room_35 : decode b_M_room 35 = .ok (.ireturn, 1) := by decide +kernel
theorem d_M_restart_0 : decode b_M_restart 0 = .ok (.aload_n 0, 1) := by decide +kernel
theorem d_M_restart_1 : decode b_M_restart 1 = .ok (.iconst 0, 1) := by decide +kernel
theorem d_M_restart_2 : decode b_M_restart 2 = .ok (.putfield 42, 3) := by decide +kernel
theorem d_M_restart_5 : decode b_M_restart 5 = .ok (.iconst 0, 1) := by decide +kernel
theorem d_M_restart_6 : decode b_M_restart 6 = .ok (.istore_n 1, 1) := by decide +kernel
theorem d_M_restart_7 : decode b_M_restart 7 = .ok (.iconst 0, 1) := by decide +kernel
theorem d_M_restart_8 : decode b_M_restart 8 = .ok (.istore_n 2, 1) := by decide +kernel
theorem d_M_restart_9 : decode b_M_restart 9 = .ok (.iload_n 2, 1) := by decide +kernel
theorem d_M_restart_10 : decode b_M_restart 10 = .ok (.bipush 8, 2) := by decide +kernel
theorem d_M_restart_12 : decode b_M_restart 12 = .ok (.if_icmp .ge 22, 3) := by decide +kernel
theorem d_M_restart_15 : decode b_M_restart 15 = .ok (.iload_n 1, 1) := by decide +kernel
theorem d_M_restart_16 : decode b_M_restart 16 = .ok (.aload_n 0, 1) := by decide +kernel
theorem d_M_restart_17 : decode b_M_restart 17 = .ok (.iload_n 2, 1) := by decide +kernel
theorem d_M_restart_18 : decode b_M_restart 18 = .ok (.invokevirtual 51, 3) := by decide +kernel
theorem d_M_restart_21 : decode b_M_restart 21 = .ok (.iadd, 1) := by decide +kernel
theorem d_M_restart_22 : decode b_M_restart 22 = .ok (.istore_n 1, 1) := by decide +kernel
theorem d_M_restart_23 : decode b_M_restart 23 = .ok (.aload_n 0, 1) := by decide +kernel
theorem d_M_restart_24 : decode b_M_restart 24 = .ok (.iload_n 2, 1) := by decide +kernel
theorem d_M_restart_25 : decode b_M_restart 25 = .ok (.invokevirtual 58, 3) := by decide +kernel
theorem d_M_restart_28 : decode b_M_restart 28 = .ok (.iinc 2 1, 3) := by decide +kernel
theorem d_M_restart_31 : decode b_M_restart 31 = .ok (.goto (-22), 3) := by decide +kernel
theorem d_M_restart_34 : decode b_M_restart 34 = .ok (.iload_n 1, 1) := by decide +kernel
theorem d_M_restart_35 : decode b_M_restart 35 = .ok (.ireturn, 1) := by decide +kernel
theorem d_M_ticks_0 : decode b_M_ticks 0 = .ok (.aload_n 0, 1) := by decide +kernel
theorem d_M_ticks_1 : decode b_M_ticks 1 = .ok (.iload_n 1, 1) := by decide +kernel
theorem d_M_ticks_2 : decode b_M_ticks 2 = .ok (.iconst 1, 1) := by decide +kernel
theorem d_M_ticks_3 : decode b_M_ticks 3 = .ok (.if_icmp .lt 25, 3) := by decide +kernel
theorem d_M_ticks_6 : decode b_M_ticks 6 = .ok (.iload_n 1, 1) := by decide +kernel
theorem d_M_ticks_7 : decode b_M_ticks 7 = .ok (.sipush 200, 3) := by decide +kernel
theorem d_M_ticks_10 : decode b_M_ticks 10 = .ok (.if_icmp .gt 18, 3) := by decide +kernel
theorem d_M_ticks_13 : decode b_M_ticks 13 = .ok (.aload_n 0, 1) := by decide +kernel
theorem d_M_ticks_14 : decode b_M_ticks 14 = .ok (.getfield 48, 3) := by decide +kernel
theorem d_M_ticks_17 : decode b_M_ticks 17 = .ok (.iload_n 1, 1) := by decide +kernel
theorem d_M_ticks_18 : decode b_M_ticks 18 = .ok (.iadd, 1) := by decide +kernel
theorem d_M_ticks_19 : decode b_M_ticks 19 = .ok (.ldc 88, 2) := by decide +kernel
theorem d_M_ticks_21 : decode b_M_ticks 21 = .ok (.if_icmp .gt 7, 3) := by decide +kernel
theorem d_M_ticks_24 : decode b_M_ticks 24 = .ok (.iconst 1, 1) := by decide +kernel
theorem d_M_ticks_25 : decode b_M_ticks 25 = .ok (.goto 4, 3) := by decide +kernel
theorem d_M_ticks_28 : decode b_M_ticks 28 = .ok (.iconst 0, 1) := by decide +kernel
theorem d_M_ticks_29 : decode b_M_ticks 29 = .ok (.invokevirtual 73, 3) := by decide +kernel
theorem d_M_ticks_32 : decode b_M_ticks 32 = .ok (.ifCond .ne 5, 3) := by decide +kernel
theorem d_M_ticks_35 : decode b_M_ticks 35 = .ok (.iconst 0, 1) := by decide +kernel
theorem d_M_ticks_36 : decode b_M_ticks 36 = .ok (.ireturn, 1) := by decide +kernel
theorem d_M_ticks_37 : decode b_M_ticks 37 = .ok (.iconst 0, 1) := by decide +kernel
theorem d_M_ticks_38 : decode b_M_ticks 38 = .ok (.istore_n 2, 1) := by decide +kernel
theorem d_M_ticks_39 : decode b_M_ticks 39 = .ok (.iload_n 2, 1) := by decide +kernel
theorem d_M_ticks_40 : decode b_M_ticks 40 = .ok (.iload_n 1, 1) := by decide +kernel
theorem d_M_ticks_41 : decode b_M_ticks 41 = .ok (.if_icmp .ge 38, 3) := by decide +kernel
theorem d_M_ticks_44 : decode b_M_ticks 44 = .ok (.aload_n 0, 1) := by decide +kernel
theorem d_M_ticks_45 : decode b_M_ticks 45 = .ok (.dup, 1) := by decide +kernel
theorem d_M_ticks_46 : decode b_M_ticks 46 = .ok (.getfield 48, 3) := by decide +kernel
theorem d_M_ticks_49 : decode b_M_ticks 49 = .ok (.iconst 1, 1) := by decide +kernel
theorem d_M_ticks_50 : decode b_M_ticks 50 = .ok (.iadd, 1) := by decide +kernel
theorem d_M_ticks_51 : decode b_M_ticks 51 = .ok (.putfield 48, 3) := by decide +kernel
theorem d_M_ticks_54 : decode b_M_ticks 54 = .ok (.iconst 0, 1) := by decide +kernel
theorem d_M_ticks_55 : decode b_M_ticks 55 = .ok (.istore_n 3, 1) := by decide +kernel
theorem d_M_ticks_56 : decode b_M_ticks 56 = .ok (.iload_n 3, 1) := by decide +kernel
theorem d_M_ticks_57 : decode b_M_ticks 57 = .ok (.bipush 8, 2) := by decide +kernel
theorem d_M_ticks_59 : decode b_M_ticks 59 = .ok (.if_icmp .ge 14, 3) := by decide +kernel
theorem d_M_ticks_62 : decode b_M_ticks 62 = .ok (.aload_n 0, 1) := by decide +kernel
theorem d_M_ticks_63 : decode b_M_ticks 63 = .ok (.iload_n 3, 1) := by decide +kernel
theorem d_M_ticks_64 : decode b_M_ticks 64 = .ok (.invokevirtual 89, 3) := by decide +kernel
theorem d_M_ticks_67 : decode b_M_ticks 67 = .ok (.iinc 3 1, 3) := by decide +kernel
theorem d_M_ticks_70 : decode b_M_ticks 70 = .ok (.goto (-14), 3) := by decide +kernel
theorem d_M_ticks_73 : decode b_M_ticks 73 = .ok (.iinc 2 1, 3) := by decide +kernel
theorem d_M_ticks_76 : decode b_M_ticks 76 = .ok (.goto (-37), 3) := by decide +kernel
theorem d_M_ticks_79 : decode b_M_ticks 79 = .ok (.aload_n 0, 1) := by decide +kernel
theorem d_M_ticks_80 : decode b_M_ticks 80 = .ok (.getfield 48, 3) := by decide +kernel
theorem d_M_ticks_83 : decode b_M_ticks 83 = .ok (.ireturn, 1) := by decide +kernel
theorem d_M_tick_0 : decode b_M_tick 0 = .ok (.iconst 0, 1) := by decide +kernel
theorem d_M_tick_1 : decode b_M_tick 1 = .ok (.istore_n 2, 1) := by decide +kernel
theorem d_M_tick_2 : decode b_M_tick 2 = .ok (.iconst 0, 1) := by decide +kernel
theorem d_M_tick_3 : decode b_M_tick 3 = .ok (.istore_n 3, 1) := by decide +kernel
theorem d_M_tick_4 : decode b_M_tick 4 = .ok (.iload_n 3, 1) := by decide +kernel
theorem d_M_tick_5 : decode b_M_tick 5 = .ok (.bipush 8, 2) := by decide +kernel
theorem d_M_tick_7 : decode b_M_tick 7 = .ok (.if_icmp .ge 68, 3) := by decide +kernel
theorem d_M_tick_10 : decode b_M_tick 10 = .ok (.aload_n 0, 1) := by decide +kernel
theorem d_M_tick_11 : decode b_M_tick 11 = .ok (.getfield 13, 3) := by decide +kernel
theorem d_M_tick_14 : decode b_M_tick 14 = .ok (.iload_n 1, 1) := by decide +kernel
theorem d_M_tick_15 : decode b_M_tick 15 = .ok (.iaload, 1) := by decide +kernel
theorem d_M_tick_16 : decode b_M_tick 16 = .ok (.iconst 2, 1) := by decide +kernel
theorem d_M_tick_17 : decode b_M_tick 17 = .ok (.if_icmp .ne 58, 3) := by decide +kernel
theorem d_M_tick_20 : decode b_M_tick 20 = .ok (.aload_n 0, 1) := by decide +kernel
theorem d_M_tick_21 : decode b_M_tick 21 = .ok (.getfield 23, 3) := by decide +kernel
theorem d_M_tick_24 : decode b_M_tick 24 = .ok (.bipush 8, 2) := by decide +kernel
theorem d_M_tick_26 : decode b_M_tick 26 = .ok (.iload_n 1, 1) := by decide +kernel
theorem d_M_tick_27 : decode b_M_tick 27 = .ok (.imul, 1) := by decide +kernel
theorem d_M_tick_28 : decode b_M_tick 28 = .ok (.iload_n 3, 1) := by decide +kernel
theorem d_M_tick_29 : decode b_M_tick 29 = .ok (.iadd, 1) := by decide +kernel
theorem d_M_tick_30 : decode b_M_tick 30 = .ok (.baload, 1) := by decide +kernel
theorem d_M_tick_31 : decode b_M_tick 31 = .ok (.ifCond .eq 38, 3) := by decide +kernel
theorem d_M_tick_34 : decode b_M_tick 34 = .ok (.aload_n 0, 1) := by decide +kernel
theorem d_M_tick_35 : decode b_M_tick 35 = .ok (.getfield 48, 3) := by decide +kernel
theorem d_M_tick_38 : decode b_M_tick 38 = .ok (.aload_n 0, 1) := by decide +kernel
theorem d_M_tick_39 : decode b_M_tick 39 = .ok (.getfield 30, 3) := by decide +kernel
theorem d_M_tick_42 : decode b_M_tick 42 = .ok (.bipush 8, 2) := by decide +kernel
theorem d_M_tick_44 : decode b_M_tick 44 = .ok (.iload_n 1, 1) := by decide +kernel
theorem d_M_tick_45 : decode b_M_tick 45 = .ok (.imul, 1) := by decide +kernel
theorem d_M_tick_46 : decode b_M_tick 46 = .ok (.iload_n 3, 1) := by decide +kernel
theorem d_M_tick_47 : decode b_M_tick 47 = .ok (.iadd, 1) := by decide +kernel
theorem d_M_tick_48 : decode b_M_tick 48 = .ok (.iaload, 1) := by decide +kernel
theorem d_M_tick_49 : decode b_M_tick 49 = .ok (.isub, 1) := by decide +kernel
theorem d_M_tick_50 : decode b_M_tick 50 = .ok (.bipush 30, 2) := by decide +kernel
theorem d_M_tick_52 : decode b_M_tick 52 = .ok (.if_icmp .lt 17, 3) := by decide +kernel
theorem d_M_tick_55 : decode b_M_tick 55 = .ok (.aload_n 0, 1) := by decide +kernel
theorem d_M_tick_56 : decode b_M_tick 56 = .ok (.getfield 23, 3) := by decide +kernel
theorem d_M_tick_59 : decode b_M_tick 59 = .ok (.bipush 8, 2) := by decide +kernel
theorem d_M_tick_61 : decode b_M_tick 61 = .ok (.iload_n 1, 1) := by decide +kernel
theorem d_M_tick_62 : decode b_M_tick 62 = .ok (.imul, 1) := by decide +kernel
theorem d_M_tick_63 : decode b_M_tick 63 = .ok (.iload_n 3, 1) := by decide +kernel
theorem d_M_tick_64 : decode b_M_tick 64 = .ok (.iadd, 1) := by decide +kernel
theorem d_M_tick_65 : decode b_M_tick 65 = .ok (.iconst 0, 1) := by decide +kernel
theorem d_M_tick_66 : decode b_M_tick 66 = .ok (.bastore, 1) := by decide +kernel
theorem d_M_tick_67 : decode b_M_tick 67 = .ok (.iconst 1, 1) := by decide +kernel
theorem d_M_tick_68 : decode b_M_tick 68 = .ok (.istore_n 2, 1) := by decide +kernel
theorem d_M_tick_69 : decode b_M_tick 69 = .ok (.iinc 3 1, 3) := by decide +kernel
theorem d_M_tick_72 : decode b_M_tick 72 = .ok (.goto (-68), 3) := by decide +kernel
theorem d_M_tick_75 : decode b_M_tick 75 = .ok (.iload_n 2, 1) := by decide +kernel
theorem d_M_tick_76 : decode b_M_tick 76 = .ok (.ifCond .eq 8, 3) := by decide +kernel
theorem d_M_tick_79 : decode b_M_tick 79 = .ok (.aload_n 0, 1) := by decide +kernel
theorem d_M_tick_80 : decode b_M_tick 80 = .ok (.iload_n 1, 1) := by decide +kernel
theorem d_M_tick_81 : decode b_M_tick 81 = .ok (.invokevirtual 80, 3) := by decide +kernel
theorem d_M_tick_84 : decode b_M_tick 84 = .ok (.aload_n 0, 1) := by decide +kernel
theorem d_M_tick_85 : decode b_M_tick 85 = .ok (.iload_n 1, 1) := by decide +kernel
theorem d_M_tick_86 : decode b_M_tick 86 = .ok (.invokevirtual 77, 3) := by decide +kernel
theorem d_M_tick_89 : decode b_M_tick 89 = .ok (.return_, 1) := by decide +kernel
theorem d_M_notes_0 : decode b_M_notes 0 = .ok (.aload_n 0, 1) := by decide +kernel
theorem d_M_notes_1 : decode b_M_notes 1 = .ok (.iconst 0, 1) := by decide +kernel
theorem d_M_notes_2 : decode b_M_notes 2 = .ok (.putfield 42, 3) := by decide +kernel
theorem d_M_notes_5 : decode b_M_notes 5 = .ok (.aload_n 0, 1) := by decide +kernel
theorem d_M_notes_6 : decode b_M_notes 6 = .ok (.getfield 45, 3) := by decide +kernel
theorem d_M_notes_9 : decode b_M_notes 9 = .ok (.ireturn, 1) := by decide +kernel
end
section
theorem d_L_cell_0 : decode b_L_cell 0 = .ok (.iload_n 1, 1) := by decide +kernel
theorem d_L_cell_1 : decode b_L_cell 1 = .ok (.aload_n 0, 1) := by decide +kernel
theorem d_L_cell_2 : decode b_L_cell 2 = .ok (.arraylength, 1) := by decide +kernel
theorem d_L_cell_3 : decode b_L_cell 3 = .ok (.if_icmp .ge 9, 3) := by decide +kernel
theorem d_L_cell_6 : decode b_L_cell 6 = .ok (.aload_n 0, 1) := by decide +kernel
theorem d_L_cell_7 : decode b_L_cell 7 = .ok (.iload_n 1, 1) := by decide +kernel
theorem d_L_cell_8 : decode b_L_cell 8 = .ok (.iaload, 1) := by decide +kernel
theorem d_L_cell_9 : decode b_L_cell 9 = .ok (.goto 4, 3) := by decide +kernel
theorem d_L_cell_12 : decode b_L_cell 12 = .ok (.iconst 0, 1) := by decide +kernel
theorem d_L_cell_13 : decode b_L_cell 13 = .ok (.ireturn, 1) := by decide +kernel
theorem d_L_join_0 : decode b_L_join 0 = .ok (.aload_n 3, 1) := by decide +kernel
theorem d_L_join_1 : decode b_L_join 1 = .ok (.iconst 0, 1) := by decide +kernel
theorem d_L_join_2 : decode b_L_join 2 = .ok (.aload_n 0, 1) := by decide +kernel
theorem d_L_join_3 : decode b_L_join 3 = .ok (.iload_n 1, 1) := by decide +kernel
theorem d_L_join_4 : decode b_L_join 4 = .ok (.iload_n 2, 1) := by decide +kernel
theorem d_L_join_5 : decode b_L_join 5 = .ok (.invokevirtual 7, 3) := by decide +kernel
theorem d_L_join_8 : decode b_L_join 8 = .ok (.i2l, 1) := by decide +kernel
theorem d_L_join_9 : decode b_L_join 9 = .ok (.lastore, 1) := by decide +kernel
theorem d_L_join_10 : decode b_L_join 10 = .ok (.goto 7, 3) := by decide +kernel
theorem d_L_join_13 : decode b_L_join 13 = .ok (.astore 4, 2) := by decide +kernel
theorem d_L_join_15 : decode b_L_join 15 = .ok (.iconst 1, 1) := by decide +kernel
theorem d_L_join_16 : decode b_L_join 16 = .ok (.ireturn, 1) := by decide +kernel
theorem d_L_join_17 : decode b_L_join 17 = .ok (.iconst 0, 1) := by decide +kernel
theorem d_L_join_18 : decode b_L_join 18 = .ok (.ireturn, 1) := by decide +kernel
theorem d_L_leave_0 : decode b_L_leave 0 = .ok (.aload_n 3, 1) := by decide +kernel
theorem d_L_leave_1 : decode b_L_leave 1 = .ok (.iconst 0, 1) := by decide +kernel
theorem d_L_leave_2 : decode b_L_leave 2 = .ok (.aload_n 0, 1) := by decide +kernel
theorem d_L_leave_3 : decode b_L_leave 3 = .ok (.iload_n 1, 1) := by decide +kernel
theorem d_L_leave_4 : decode b_L_leave 4 = .ok (.iload_n 2, 1) := by decide +kernel
theorem d_L_leave_5 : decode b_L_leave 5 = .ok (.invokevirtual 15, 3) := by decide +kernel
theorem d_L_leave_8 : decode b_L_leave 8 = .ok (.i2l, 1) := by decide +kernel
theorem d_L_leave_9 : decode b_L_leave 9 = .ok (.lastore, 1) := by decide +kernel
theorem d_L_leave_10 : decode b_L_leave 10 = .ok (.goto 7, 3) := by decide +kernel
theorem d_L_leave_13 : decode b_L_leave 13 = .ok (.astore 4, 2) := by decide +kernel
theorem d_L_leave_15 : decode b_L_leave 15 = .ok (.iconst 1, 1) := by decide +kernel
theorem d_L_leave_16 : decode b_L_leave 16 = .ok (.ireturn, 1) := by decide +kernel
theorem d_L_leave_17 : decode b_L_leave 17 = .ok (.iconst 0, 1) := by decide +kernel
theorem d_L_leave_18 : decode b_L_leave 18 = .ok (.ireturn, 1) := by decide +kernel
theorem d_L_beat_0 : decode b_L_beat 0 = .ok (.aload 4, 2) := by decide +kernel
theorem d_L_beat_2 : decode b_L_beat 2 = .ok (.iconst 0, 1) := by decide +kernel
theorem d_L_beat_3 : decode b_L_beat 3 = .ok (.aload_n 0, 1) := by decide +kernel
theorem d_L_beat_4 : decode b_L_beat 4 = .ok (.iload_n 1, 1) := by decide +kernel
theorem d_L_beat_5 : decode b_L_beat 5 = .ok (.iload_n 2, 1) := by decide +kernel
theorem d_L_beat_6 : decode b_L_beat 6 = .ok (.iload_n 3, 1) := by decide +kernel
theorem d_L_beat_7 : decode b_L_beat 7 = .ok (.invokevirtual 18, 3) := by decide +kernel
theorem d_L_beat_10 : decode b_L_beat 10 = .ok (.i2l, 1) := by decide +kernel
theorem d_L_beat_11 : decode b_L_beat 11 = .ok (.lastore, 1) := by decide +kernel
theorem d_L_beat_12 : decode b_L_beat 12 = .ok (.goto 7, 3) := by decide +kernel
theorem d_L_beat_15 : decode b_L_beat 15 = .ok (.astore 5, 2) := by decide +kernel
theorem d_L_beat_17 : decode b_L_beat 17 = .ok (.iconst 1, 1) := by decide +kernel
theorem d_L_beat_18 : decode b_L_beat 18 = .ok (.ireturn, 1) := by decide +kernel
theorem d_L_beat_19 : decode b_L_beat 19 = .ok (.iconst 0, 1) := by decide +kernel
theorem d_L_beat_20 : decode b_L_beat 20 = .ok (.ireturn, 1) := by decide +kernel
theorem d_L_commit_0 : decode b_L_commit 0 = .ok (.aload 7, 2) := by decide +kernel
theorem d_L_commit_2 : decode b_L_commit 2 = .ok (.iconst 0, 1) := by decide +kernel
theorem d_L_commit_3 : decode b_L_commit 3 = .ok (.aload_n 0, 1) := by decide +kernel
theorem d_L_commit_4 : decode b_L_commit 4 = .ok (.iload_n 1, 1) := by decide +kernel
theorem d_L_commit_5 : decode b_L_commit 5 = .ok (.iload_n 2, 1) := by decide +kernel
theorem d_L_commit_6 : decode b_L_commit 6 = .ok (.iload_n 3, 1) := by decide +kernel
theorem d_L_commit_7 : decode b_L_commit 7 = .ok (.iload 4, 2) := by decide +kernel
theorem d_L_commit_9 : decode b_L_commit 9 = .ok (.lload 5, 2) := by decide +kernel
theorem d_L_commit_11 : decode b_L_commit 11 = .ok (.invokevirtual 22, 3) := by decide +kernel
theorem d_L_commit_14 : decode b_L_commit 14 = .ok (.i2l, 1) := by decide +kernel
theorem d_L_commit_15 : decode b_L_commit 15 = .ok (.lastore, 1) := by decide +kernel
theorem d_L_commit_16 : decode b_L_commit 16 = .ok (.goto 7, 3) := by decide +kernel
theorem d_L_commit_19 : decode b_L_commit 19 = .ok (.astore 8, 2) := by decide +kernel
theorem d_L_commit_21 : decode b_L_commit 21 = .ok (.iconst 1, 1) := by decide +kernel
theorem d_L_commit_22 : decode b_L_commit 22 = .ok (.ireturn, 1) := by decide +kernel
theorem d_L_commit_23 : decode b_L_commit 23 = .ok (.iconst 0, 1) := by decide +kernel
theorem d_L_commit_24 : decode b_L_commit 24 = .ok (.ireturn, 1) := by decide +kernel
theorem d_L_committed_0 : decode b_L_committed 0 = .ok (.aload_n 3, 1) := by decide +kernel
theorem d_L_committed_1 : decode b_L_committed 1 = .ok (.iconst 0, 1) := by decide +kernel
theorem d_L_committed_2 : decode b_L_committed 2 = .ok (.aload_n 0, 1) := by decide +kernel
theorem d_L_committed_3 : decode b_L_committed 3 = .ok (.iload_n 1, 1) := by decide +kernel
theorem d_L_committed_4 : decode b_L_committed 4 = .ok (.iload_n 2, 1) := by decide +kernel
theorem d_L_committed_5 : decode b_L_committed 5 = .ok (.invokevirtual 26, 3) := by decide +kernel
theorem d_L_committed_8 : decode b_L_committed 8 = .ok (.lastore, 1) := by decide +kernel
theorem d_L_committed_9 : decode b_L_committed 9 = .ok (.goto 7, 3) := by decide +kernel
theorem d_L_committed_12 : decode b_L_committed 12 = .ok (.astore 4, 2) := by decide +kernel
theorem d_L_committed_14 : decode b_L_committed 14 = .ok (.iconst 1, 1) := by decide +kernel
theorem d_L_committed_15 : decode b_L_committed 15 = .ok (.ireturn, 1) := by decide +kernel
theorem d_L_committed_16 : decode b_L_committed 16 = .ok (.iconst 0, 1) := by decide +kernel
theorem d_L_committed_17 : decode b_L_committed 17 = .ok (.ireturn, 1) := by decide +kernel
theorem d_L_group_0 : decode b_L_group 0 = .ok (.aload_n 3, 1) := by decide +kernel
theorem d_L_group_1 : decode b_L_group 1 = .ok (.iconst 0, 1) := by decide +kernel
theorem d_L_group_2 : decode b_L_group 2 = .ok (.aload_n 0, 1) := by decide +kernel
theorem d_L_group_3 : decode b_L_group 3 = .ok (.iload_n 1, 1) := by decide +kernel
theorem d_L_group_4 : decode b_L_group 4 = .ok (.iload_n 2, 1) := by decide +kernel
theorem d_L_group_5 : decode b_L_group 5 = .ok (.invokevirtual 30, 3) := by decide +kernel
theorem d_L_group_8 : decode b_L_group 8 = .ok (.i2l, 1) := by decide +kernel
theorem d_L_group_9 : decode b_L_group 9 = .ok (.lastore, 1) := by decide +kernel
theorem d_L_group_10 : decode b_L_group 10 = .ok (.goto 7, 3) := by decide +kernel
theorem d_L_group_13 : decode b_L_group 13 = .ok (.astore 4, 2) := by decide +kernel
theorem d_L_group_15 : decode b_L_group 15 = .ok (.iconst 1, 1) := by decide +kernel
theorem d_L_group_16 : decode b_L_group 16 = .ok (.ireturn, 1) := by decide +kernel
theorem d_L_group_17 : decode b_L_group 17 = .ok (.iconst 0, 1) := by decide +kernel
theorem d_L_group_18 : decode b_L_group 18 = .ok (.ireturn, 1) := by decide +kernel
theorem d_L_share_0 : decode b_L_share 0 = .ok (.aload_n 3, 1) := by decide +kernel
theorem d_L_share_1 : decode b_L_share 1 = .ok (.iconst 0, 1) := by decide +kernel
theorem d_L_share_2 : decode b_L_share 2 = .ok (.aload_n 0, 1) := by decide +kernel
theorem d_L_share_3 : decode b_L_share 3 = .ok (.iload_n 1, 1) := by decide +kernel
theorem d_L_share_4 : decode b_L_share 4 = .ok (.iload_n 2, 1) := by decide +kernel
theorem d_L_share_5 : decode b_L_share 5 = .ok (.invokevirtual 33, 3) := by decide +kernel
theorem d_L_share_8 : decode b_L_share 8 = .ok (.i2l, 1) := by decide +kernel
theorem d_L_share_9 : decode b_L_share 9 = .ok (.lastore, 1) := by decide +kernel
theorem d_L_share_10 : decode b_L_share 10 = .ok (.goto 7, 3) := by decide +kernel
theorem d_L_share_13 : decode b_L_share 13 = .ok (.astore 4, 2) := by decide +kernel
theorem d_L_share_15 : decode b_L_share 15 = .ok (.iconst 1, 1) := by decide +kernel
theorem d_L_share_16 : decode b_L_share 16 = .ok (.ireturn, 1) := by decide +kernel
theorem d_L_share_17 : decode b_L_share 17 = .ok (.iconst 0, 1) := by decide +kernel
theorem d_L_share_18 : decode b_L_share 18 = .ok (.ireturn, 1) := by decide +kernel
theorem d_L_room_0 : decode b_L_room 0 = .ok (.aload_n 2, 1) := by decide +kernel
theorem d_L_room_1 : decode b_L_room 1 = .ok (.iconst 0, 1) := by decide +kernel
theorem d_L_room_2 : decode b_L_room 2 = .ok (.aload_n 0, 1) := by decide +kernel
theorem d_L_room_3 : decode b_L_room 3 = .ok (.iload_n 1, 1) := by decide +kernel
theorem d_L_room_4 : decode b_L_room 4 = .ok (.invokevirtual 36, 3) := by decide +kernel
theorem d_L_room_7 : decode b_L_room 7 = .ok (.i2l, 1) := by decide +kernel
theorem d_L_room_8 : decode b_L_room 8 = .ok (.lastore, 1) := by decide +kernel
theorem d_L_room_9 : decode b_L_room 9 = .ok (.goto 6, 3) := by decide +kernel
theorem d_L_room_12 : decode b_L_room 12 = .ok (.astore_n 3, 1) := by decide +kernel
theorem d_L_room_13 : decode b_L_room 13 = .ok (.iconst 1, 1) := by decide +kernel
theorem d_L_room_14 : decode b_L_room 14 = .ok (.ireturn, 1) := by decide +kernel
theorem d_L_room_15 : decode b_L_room 15 = .ok (.iconst 0, 1) := by decide +kernel
theorem d_L_room_16 : decode b_L_room 16 = .ok (.ireturn, 1) := by decide +kernel
theorem d_L_ticks_0 : decode b_L_ticks 0 = .ok (.aload_n 2, 1) := by decide +kernel
theorem d_L_ticks_1 : decode b_L_ticks 1 = .ok (.iconst 0, 1) := by decide +kernel
theorem d_L_ticks_2 : decode b_L_ticks 2 = .ok (.aload_n 0, 1) := by decide +kernel
theorem d_L_ticks_3 : decode b_L_ticks 3 = .ok (.iload_n 1, 1) := by decide +kernel
theorem d_L_ticks_4 : decode b_L_ticks 4 = .ok (.invokevirtual 40, 3) := by decide +kernel
theorem d_L_ticks_7 : decode b_L_ticks 7 = .ok (.i2l, 1) := by decide +kernel
theorem d_L_ticks_8 : decode b_L_ticks 8 = .ok (.lastore, 1) := by decide +kernel
theorem d_L_ticks_9 : decode b_L_ticks 9 = .ok (.goto 6, 3) := by decide +kernel
theorem d_L_ticks_12 : decode b_L_ticks 12 = .ok (.astore_n 3, 1) := by decide +kernel
theorem d_L_ticks_13 : decode b_L_ticks 13 = .ok (.iconst 1, 1) := by decide +kernel
theorem d_L_ticks_14 : decode b_L_ticks 14 = .ok (.ireturn, 1) := by decide +kernel
theorem d_L_ticks_15 : decode b_L_ticks 15 = .ok (.iconst 0, 1) := by decide +kernel
theorem d_L_ticks_16 : decode b_L_ticks 16 = .ok (.ireturn, 1) := by decide +kernel
end
section
theorem d_L_law_0 : decode b_L_law 0 = .ok (.new 8, 3) := by decide +kernel
theorem d_L_law_3 : decode b_L_law 3 = .ok (.dup, 1) := by decide +kernel
theorem d_L_law_4 : decode b_L_law 4 = .ok (.aload_n 0, 1) := by decide +kernel
theorem d_L_law_5 : decode b_L_law 5 = .ok (.iconst 0, 1) := by decide +kernel
theorem d_L_law_6 : decode b_L_law 6 = .ok (.invokestatic 43, 3) := by decide +kernel
theorem d_L_law_9 : decode b_L_law 9 = .ok (.invokespecial 49, 3) := by decide +kernel
theorem d_L_law_12 : decode b_L_law 12 = .ok (.astore_n 1, 1) := by decide +kernel
theorem d_L_law_13 : decode b_L_law 13 = .ok (.new 52, 3) := by decide +kernel
theorem d_L_law_16 : decode b_L_law 16 = .ok (.dup, 1) := by decide +kernel
theorem d_L_law_17 : decode b_L_law 17 = .ok (.aload_n 0, 1) := by decide +kernel
theorem d_L_law_18 : decode b_L_law 18 = .ok (.iconst 0, 1) := by decide +kernel
theorem d_L_law_19 : decode b_L_law 19 = .ok (.invokestatic 43, 3) := by decide +kernel
theorem d_L_law_22 : decode b_L_law 22 = .ok (.invokespecial 54, 3) := by decide +kernel
theorem d_L_law_25 : decode b_L_law 25 = .ok (.astore_n 2, 1) := by decide +kernel
theorem d_L_law_26 : decode b_L_law 26 = .ok (.iconst 1, 1) := by decide +kernel
theorem d_L_law_27 : decode b_L_law 27 = .ok (.newarray .long, 2) := by decide +kernel
theorem d_L_law_29 : decode b_L_law 29 = .ok (.astore_n 3, 1) := by decide +kernel
theorem d_L_law_30 : decode b_L_law 30 = .ok (.iconst 1, 1) := by decide +kernel
theorem d_L_law_31 : decode b_L_law 31 = .ok (.istore 4, 2) := by decide +kernel
theorem d_L_law_33 : decode b_L_law 33 = .ok (.iload 4, 2) := by decide +kernel
theorem d_L_law_35 : decode b_L_law 35 = .ok (.aload_n 0, 1) := by decide +kernel
theorem d_L_law_36 : decode b_L_law 36 = .ok (.arraylength, 1) := by decide +kernel
theorem d_L_law_37 : decode b_L_law 37 = .ok (.bipush 7, 2) := by decide +kernel
theorem d_L_law_39 : decode b_L_law 39 = .ok (.isub, 1) := by decide +kernel
theorem d_L_law_40 : decode b_L_law 40 = .ok (.if_icmp .gt 769, 3) := by decide +kernel
theorem d_L_law_43 : decode b_L_law 43 = .ok (.aload_n 0, 1) := by decide +kernel
theorem d_L_law_44 : decode b_L_law 44 = .ok (.iload 4, 2) := by decide +kernel
theorem d_L_law_46 : decode b_L_law 46 = .ok (.iaload, 1) := by decide +kernel
theorem d_L_law_47 : decode b_L_law 47 = .ok (.bipush 15, 2) := by decide +kernel
theorem d_L_law_49 : decode b_L_law 49 = .ok (.iand, 1) := by decide +kernel
theorem d_L_law_50 : decode b_L_law 50 = .ok (.tableswitch 753 0 10 #[58, 126, 194, 274, 412, 479, 547, 615, 671, 684, 740], 58) := by decide +kernel
theorem d_L_law_108 : decode b_L_law 108 = .ok (.aload_n 1, 1) := by decide +kernel
theorem d_L_law_109 : decode b_L_law 109 = .ok (.aload_n 0, 1) := by decide +kernel
theorem d_L_law_110 : decode b_L_law 110 = .ok (.iload 4, 2) := by decide +kernel
theorem d_L_law_112 : decode b_L_law 112 = .ok (.iconst 1, 1) := by decide +kernel
theorem d_L_law_113 : decode b_L_law 113 = .ok (.iadd, 1) := by decide +kernel
theorem d_L_law_114 : decode b_L_law 114 = .ok (.iaload, 1) := by decide +kernel
theorem d_L_law_115 : decode b_L_law 115 = .ok (.aload_n 0, 1) := by decide +kernel
theorem d_L_law_116 : decode b_L_law 116 = .ok (.iload 4, 2) := by decide +kernel
theorem d_L_law_118 : decode b_L_law 118 = .ok (.iconst 2, 1) := by decide +kernel
theorem d_L_law_119 : decode b_L_law 119 = .ok (.iadd, 1) := by decide +kernel
theorem d_L_law_120 : decode b_L_law 120 = .ok (.iaload, 1) := by decide +kernel
theorem d_L_law_121 : decode b_L_law 121 = .ok (.aload_n 3, 1) := by decide +kernel
theorem d_L_law_122 : decode b_L_law 122 = .ok (.invokestatic 55, 3) := by decide +kernel
theorem d_L_law_125 : decode b_L_law 125 = .ok (.istore 5, 2) := by decide +kernel
theorem d_L_law_127 : decode b_L_law 127 = .ok (.aload_n 2, 1) := by decide +kernel
theorem d_L_law_128 : decode b_L_law 128 = .ok (.aload_n 0, 1) := by decide +kernel
theorem d_L_law_129 : decode b_L_law 129 = .ok (.iload 4, 2) := by decide +kernel
theorem d_L_law_131 : decode b_L_law 131 = .ok (.iconst 1, 1) := by decide +kernel
theorem d_L_law_132 : decode b_L_law 132 = .ok (.iadd, 1) := by decide +kernel
theorem d_L_law_133 : decode b_L_law 133 = .ok (.iaload, 1) := by decide +kernel
theorem d_L_law_134 : decode b_L_law 134 = .ok (.aload_n 0, 1) := by decide +kernel
theorem d_L_law_135 : decode b_L_law 135 = .ok (.iload 4, 2) := by decide +kernel
theorem d_L_law_137 : decode b_L_law 137 = .ok (.iconst 2, 1) := by decide +kernel
theorem d_L_law_138 : decode b_L_law 138 = .ok (.iadd, 1) := by decide +kernel
theorem d_L_law_139 : decode b_L_law 139 = .ok (.iaload, 1) := by decide +kernel
theorem d_L_law_140 : decode b_L_law 140 = .ok (.invokevirtual 58, 3) := by decide +kernel
theorem d_L_law_143 : decode b_L_law 143 = .ok (.istore 6, 2) := by decide +kernel
theorem d_L_law_145 : decode b_L_law 145 = .ok (.aload_n 2, 1) := by decide +kernel
theorem d_L_law_146 : decode b_L_law 146 = .ok (.invokevirtual 59, 3) := by decide +kernel
theorem d_L_law_149 : decode b_L_law 149 = .ok (.iload 5, 2) := by decide +kernel
theorem d_L_law_151 : decode b_L_law 151 = .ok (.if_icmp .eq 5, 3) := by decide +kernel
theorem d_L_law_154 : decode b_L_law 154 = .ok (.iconst 0, 1) := by decide +kernel
theorem d_L_law_155 : decode b_L_law 155 = .ok (.ireturn, 1) := by decide +kernel
theorem d_L_law_156 : decode b_L_law 156 = .ok (.iload 5, 2) := by decide +kernel
theorem d_L_law_158 : decode b_L_law 158 = .ok (.ifCond .ne 15, 3) := by decide +kernel
theorem d_L_law_161 : decode b_L_law 161 = .ok (.aload_n 3, 1) := by decide +kernel
theorem d_L_law_162 : decode b_L_law 162 = .ok (.iconst 0, 1) := by decide +kernel
theorem d_L_law_163 : decode b_L_law 163 = .ok (.laload, 1) := by decide +kernel
theorem d_L_law_164 : decode b_L_law 164 = .ok (.iload 6, 2) := by decide +kernel
theorem d_L_law_166 : decode b_L_law 166 = .ok (.i2l, 1) := by decide +kernel
theorem d_L_law_167 : decode b_L_law 167 = .ok (.lcmp, 1) := by decide +kernel
theorem d_L_law_168 : decode b_L_law 168 = .ok (.ifCond .eq 5, 3) := by decide +kernel
theorem d_L_law_171 : decode b_L_law 171 = .ok (.iconst 0, 1) := by decide +kernel
theorem d_L_law_172 : decode b_L_law 172 = .ok (.ireturn, 1) := by decide +kernel
theorem d_L_law_173 : decode b_L_law 173 = .ok (.goto 630, 3) := by decide +kernel
theorem d_L_law_176 : decode b_L_law 176 = .ok (.aload_n 1, 1) := by decide +kernel
theorem d_L_law_177 : decode b_L_law 177 = .ok (.aload_n 0, 1) := by decide +kernel
theorem d_L_law_178 : decode b_L_law 178 = .ok (.iload 4, 2) := by decide +kernel
theorem d_L_law_180 : decode b_L_law 180 = .ok (.iconst 1, 1) := by decide +kernel
theorem d_L_law_181 : decode b_L_law 181 = .ok (.iadd, 1) := by decide +kernel
theorem d_L_law_182 : decode b_L_law 182 = .ok (.iaload, 1) := by decide +kernel
theorem d_L_law_183 : decode b_L_law 183 = .ok (.aload_n 0, 1) := by decide +kernel
theorem d_L_law_184 : decode b_L_law 184 = .ok (.iload 4, 2) := by decide +kernel
theorem d_L_law_186 : decode b_L_law 186 = .ok (.iconst 2, 1) := by decide +kernel
theorem d_L_law_187 : decode b_L_law 187 = .ok (.iadd, 1) := by decide +kernel
theorem d_L_law_188 : decode b_L_law 188 = .ok (.iaload, 1) := by decide +kernel
theorem d_L_law_189 : decode b_L_law 189 = .ok (.aload_n 3, 1) := by decide +kernel
theorem d_L_law_190 : decode b_L_law 190 = .ok (.invokestatic 63, 3) := by decide +kernel
theorem d_L_law_193 : decode b_L_law 193 = .ok (.istore 5, 2) := by decide +kernel
theorem d_L_law_195 : decode b_L_law 195 = .ok (.aload_n 2, 1) := by decide +kernel
theorem d_L_law_196 : decode b_L_law 196 = .ok (.aload_n 0, 1) := by decide +kernel
theorem d_L_law_197 : decode b_L_law 197 = .ok (.iload 4, 2) := by decide +kernel
theorem d_L_law_199 : decode b_L_law 199 = .ok (.iconst 1, 1) := by decide +kernel
theorem d_L_law_200 : decode b_L_law 200 = .ok (.iadd, 1) := by decide +kernel
theorem d_L_law_201 : decode b_L_law 201 = .ok (.iaload, 1) := by decide +kernel
theorem d_L_law_202 : decode b_L_law 202 = .ok (.aload_n 0, 1) := by decide +kernel
theorem d_L_law_203 : decode b_L_law 203 = .ok (.iload 4, 2) := by decide +kernel
theorem d_L_law_205 : decode b_L_law 205 = .ok (.iconst 2, 1) := by decide +kernel
theorem d_L_law_206 : decode b_L_law 206 = .ok (.iadd, 1) := by decide +kernel
theorem d_L_law_207 : decode b_L_law 207 = .ok (.iaload, 1) := by decide +kernel
theorem d_L_law_208 : decode b_L_law 208 = .ok (.invokevirtual 65, 3) := by decide +kernel
theorem d_L_law_211 : decode b_L_law 211 = .ok (.istore 6, 2) := by decide +kernel
theorem d_L_law_213 : decode b_L_law 213 = .ok (.aload_n 2, 1) := by decide +kernel
theorem d_L_law_214 : decode b_L_law 214 = .ok (.invokevirtual 59, 3) := by decide +kernel
theorem d_L_law_217 : decode b_L_law 217 = .ok (.iload 5, 2) := by decide +kernel
theorem d_L_law_219 : decode b_L_law 219 = .ok (.if_icmp .eq 5, 3) := by decide +kernel
theorem d_L_law_222 : decode b_L_law 222 = .ok (.iconst 0, 1) := by decide +kernel
theorem d_L_law_223 : decode b_L_law 223 = .ok (.ireturn, 1) := by decide +kernel
theorem d_L_law_224 : decode b_L_law 224 = .ok (.iload 5, 2) := by decide +kernel
theorem d_L_law_226 : decode b_L_law 226 = .ok (.ifCond .ne 15, 3) := by decide +kernel
theorem d_L_law_229 : decode b_L_law 229 = .ok (.aload_n 3, 1) := by decide +kernel
theorem d_L_law_230 : decode b_L_law 230 = .ok (.iconst 0, 1) := by decide +kernel
theorem d_L_law_231 : decode b_L_law 231 = .ok (.laload, 1) := by decide +kernel
theorem d_L_law_232 : decode b_L_law 232 = .ok (.iload 6, 2) := by decide +kernel
theorem d_L_law_234 : decode b_L_law 234 = .ok (.i2l, 1) := by decide +kernel
theorem d_L_law_235 : decode b_L_law 235 = .ok (.lcmp, 1) := by decide +kernel
theorem d_L_law_236 : decode b_L_law 236 = .ok (.ifCond .eq 5, 3) := by decide +kernel
theorem d_L_law_239 : decode b_L_law 239 = .ok (.iconst 0, 1) := by decide +kernel
theorem d_L_law_240 : decode b_L_law 240 = .ok (.ireturn, 1) := by decide +kernel
theorem d_L_law_241 : decode b_L_law 241 = .ok (.goto 562, 3) := by decide +kernel
theorem d_L_law_244 : decode b_L_law 244 = .ok (.aload_n 1, 1) := by decide +kernel
theorem d_L_law_245 : decode b_L_law 245 = .ok (.aload_n 0, 1) := by decide +kernel
theorem d_L_law_246 : decode b_L_law 246 = .ok (.iload 4, 2) := by decide +kernel
theorem d_L_law_248 : decode b_L_law 248 = .ok (.iconst 1, 1) := by decide +kernel
end
section
theorem d_L_law_249 : decode b_L_law 249 = .ok (.iadd, 1) := by decide +kernel
theorem d_L_law_250 : decode b_L_law 250 = .ok (.iaload, 1) := by decide +kernel
theorem d_L_law_251 : decode b_L_law 251 = .ok (.aload_n 0, 1) := by decide +kernel
theorem d_L_law_252 : decode b_L_law 252 = .ok (.iload 4, 2) := by decide +kernel
theorem d_L_law_254 : decode b_L_law 254 = .ok (.iconst 2, 1) := by decide +kernel
theorem d_L_law_255 : decode b_L_law 255 = .ok (.iadd, 1) := by decide +kernel
theorem d_L_law_256 : decode b_L_law 256 = .ok (.iaload, 1) := by decide +kernel
theorem d_L_law_257 : decode b_L_law 257 = .ok (.aload_n 0, 1) := by decide +kernel
theorem d_L_law_258 : decode b_L_law 258 = .ok (.iload 4, 2) := by decide +kernel
theorem d_L_law_260 : decode b_L_law 260 = .ok (.iconst 3, 1) := by decide +kernel
theorem d_L_law_261 : decode b_L_law 261 = .ok (.iadd, 1) := by decide +kernel
theorem d_L_law_262 : decode b_L_law 262 = .ok (.iaload, 1) := by decide +kernel
theorem d_L_law_263 : decode b_L_law 263 = .ok (.aload_n 3, 1) := by decide +kernel
theorem d_L_law_264 : decode b_L_law 264 = .ok (.invokestatic 66, 3) := by decide +kernel
theorem d_L_law_267 : decode b_L_law 267 = .ok (.istore 5, 2) := by decide +kernel
theorem d_L_law_269 : decode b_L_law 269 = .ok (.aload_n 2, 1) := by decide +kernel
theorem d_L_law_270 : decode b_L_law 270 = .ok (.aload_n 0, 1) := by decide +kernel
theorem d_L_law_271 : decode b_L_law 271 = .ok (.iload 4, 2) := by decide +kernel
theorem d_L_law_273 : decode b_L_law 273 = .ok (.iconst 1, 1) := by decide +kernel
theorem d_L_law_274 : decode b_L_law 274 = .ok (.iadd, 1) := by decide +kernel
theorem d_L_law_275 : decode b_L_law 275 = .ok (.iaload, 1) := by decide +kernel
theorem d_L_law_276 : decode b_L_law 276 = .ok (.aload_n 0, 1) := by decide +kernel
theorem d_L_law_277 : decode b_L_law 277 = .ok (.iload 4, 2) := by decide +kernel
theorem d_L_law_279 : decode b_L_law 279 = .ok (.iconst 2, 1) := by decide +kernel
theorem d_L_law_280 : decode b_L_law 280 = .ok (.iadd, 1) := by decide +kernel
theorem d_L_law_281 : decode b_L_law 281 = .ok (.iaload, 1) := by decide +kernel
theorem d_L_law_282 : decode b_L_law 282 = .ok (.aload_n 0, 1) := by decide +kernel
theorem d_L_law_283 : decode b_L_law 283 = .ok (.iload 4, 2) := by decide +kernel
theorem d_L_law_285 : decode b_L_law 285 = .ok (.iconst 3, 1) := by decide +kernel
theorem d_L_law_286 : decode b_L_law 286 = .ok (.iadd, 1) := by decide +kernel
theorem d_L_law_287 : decode b_L_law 287 = .ok (.iaload, 1) := by decide +kernel
theorem d_L_law_288 : decode b_L_law 288 = .ok (.invokevirtual 69, 3) := by decide +kernel
theorem d_L_law_291 : decode b_L_law 291 = .ok (.istore 6, 2) := by decide +kernel
theorem d_L_law_293 : decode b_L_law 293 = .ok (.aload_n 2, 1) := by decide +kernel
theorem d_L_law_294 : decode b_L_law 294 = .ok (.invokevirtual 59, 3) := by decide +kernel
theorem d_L_law_297 : decode b_L_law 297 = .ok (.iload 5, 2) := by decide +kernel
theorem d_L_law_299 : decode b_L_law 299 = .ok (.if_icmp .eq 5, 3) := by decide +kernel
theorem d_L_law_302 : decode b_L_law 302 = .ok (.iconst 0, 1) := by decide +kernel
theorem d_L_law_303 : decode b_L_law 303 = .ok (.ireturn, 1) := by decide +kernel
theorem d_L_law_304 : decode b_L_law 304 = .ok (.iload 5, 2) := by decide +kernel
theorem d_L_law_306 : decode b_L_law 306 = .ok (.ifCond .ne 15, 3) := by decide +kernel
theorem d_L_law_309 : decode b_L_law 309 = .ok (.aload_n 3, 1) := by decide +kernel
theorem d_L_law_310 : decode b_L_law 310 = .ok (.iconst 0, 1) := by decide +kernel
theorem d_L_law_311 : decode b_L_law 311 = .ok (.laload, 1) := by decide +kernel
theorem d_L_law_312 : decode b_L_law 312 = .ok (.iload 6, 2) := by decide +kernel
theorem d_L_law_314 : decode b_L_law 314 = .ok (.i2l, 1) := by decide +kernel
theorem d_L_law_315 : decode b_L_law 315 = .ok (.lcmp, 1) := by decide +kernel
theorem d_L_law_316 : decode b_L_law 316 = .ok (.ifCond .eq 5, 3) := by decide +kernel
theorem d_L_law_319 : decode b_L_law 319 = .ok (.iconst 0, 1) := by decide +kernel
theorem d_L_law_320 : decode b_L_law 320 = .ok (.ireturn, 1) := by decide +kernel
theorem d_L_law_321 : decode b_L_law 321 = .ok (.goto 482, 3) := by decide +kernel
theorem d_L_law_324 : decode b_L_law 324 = .ok (.aload_n 1, 1) := by decide +kernel
theorem d_L_law_325 : decode b_L_law 325 = .ok (.aload_n 0, 1) := by decide +kernel
theorem d_L_law_326 : decode b_L_law 326 = .ok (.iload 4, 2) := by decide +kernel
theorem d_L_law_328 : decode b_L_law 328 = .ok (.iconst 1, 1) := by decide +kernel
theorem d_L_law_329 : decode b_L_law 329 = .ok (.iadd, 1) := by decide +kernel
theorem d_L_law_330 : decode b_L_law 330 = .ok (.iaload, 1) := by decide +kernel
theorem d_L_law_331 : decode b_L_law 331 = .ok (.aload_n 0, 1) := by decide +kernel
theorem d_L_law_332 : decode b_L_law 332 = .ok (.iload 4, 2) := by decide +kernel
theorem d_L_law_334 : decode b_L_law 334 = .ok (.iconst 2, 1) := by decide +kernel
theorem d_L_law_335 : decode b_L_law 335 = .ok (.iadd, 1) := by decide +kernel
theorem d_L_law_336 : decode b_L_law 336 = .ok (.iaload, 1) := by decide +kernel
theorem d_L_law_337 : decode b_L_law 337 = .ok (.aload_n 0, 1) := by decide +kernel
theorem d_L_law_338 : decode b_L_law 338 = .ok (.iload 4, 2) := by decide +kernel
theorem d_L_law_340 : decode b_L_law 340 = .ok (.iconst 3, 1) := by decide +kernel
theorem d_L_law_341 : decode b_L_law 341 = .ok (.iadd, 1) := by decide +kernel
theorem d_L_law_342 : decode b_L_law 342 = .ok (.iaload, 1) := by decide +kernel
theorem d_L_law_343 : decode b_L_law 343 = .ok (.aload_n 0, 1) := by decide +kernel
theorem d_L_law_344 : decode b_L_law 344 = .ok (.iload 4, 2) := by decide +kernel
theorem d_L_law_346 : decode b_L_law 346 = .ok (.iconst 4, 1) := by decide +kernel
theorem d_L_law_347 : decode b_L_law 347 = .ok (.iadd, 1) := by decide +kernel
theorem d_L_law_348 : decode b_L_law 348 = .ok (.iaload, 1) := by decide +kernel
theorem d_L_law_349 : decode b_L_law 349 = .ok (.aload_n 0, 1) := by decide +kernel
theorem d_L_law_350 : decode b_L_law 350 = .ok (.iload 4, 2) := by decide +kernel
theorem d_L_law_352 : decode b_L_law 352 = .ok (.iconst 5, 1) := by decide +kernel
theorem d_L_law_353 : decode b_L_law 353 = .ok (.iadd, 1) := by decide +kernel
theorem d_L_law_354 : decode b_L_law 354 = .ok (.iaload, 1) := by decide +kernel
theorem d_L_law_355 : decode b_L_law 355 = .ok (.i2l, 1) := by decide +kernel
theorem d_L_law_356 : decode b_L_law 356 = .ok (.bipush 32, 2) := by decide +kernel
theorem d_L_law_358 : decode b_L_law 358 = .ok (.lshl, 1) := by decide +kernel
theorem d_L_law_359 : decode b_L_law 359 = .ok (.aload_n 0, 1) := by decide +kernel
theorem d_L_law_360 : decode b_L_law 360 = .ok (.iload 4, 2) := by decide +kernel
theorem d_L_law_362 : decode b_L_law 362 = .ok (.bipush 6, 2) := by decide +kernel
theorem d_L_law_364 : decode b_L_law 364 = .ok (.iadd, 1) := by decide +kernel
theorem d_L_law_365 : decode b_L_law 365 = .ok (.iaload, 1) := by decide +kernel
theorem d_L_law_366 : decode b_L_law 366 = .ok (.i2l, 1) := by decide +kernel
theorem d_L_law_367 : decode b_L_law 367 = .ok (.ldc2_w 70, 3) := by decide +kernel
theorem d_L_law_370 : decode b_L_law 370 = .ok (.land, 1) := by decide +kernel
theorem d_L_law_371 : decode b_L_law 371 = .ok (.lor, 1) := by decide +kernel
theorem d_L_law_372 : decode b_L_law 372 = .ok (.aload_n 3, 1) := by decide +kernel
theorem d_L_law_373 : decode b_L_law 373 = .ok (.invokestatic 72, 3) := by decide +kernel
theorem d_L_law_376 : decode b_L_law 376 = .ok (.istore 5, 2) := by decide +kernel
theorem d_L_law_378 : decode b_L_law 378 = .ok (.aload_n 2, 1) := by decide +kernel
theorem d_L_law_379 : decode b_L_law 379 = .ok (.aload_n 0, 1) := by decide +kernel
theorem d_L_law_380 : decode b_L_law 380 = .ok (.iload 4, 2) := by decide +kernel
theorem d_L_law_382 : decode b_L_law 382 = .ok (.iconst 1, 1) := by decide +kernel
theorem d_L_law_383 : decode b_L_law 383 = .ok (.iadd, 1) := by decide +kernel
theorem d_L_law_384 : decode b_L_law 384 = .ok (.iaload, 1) := by decide +kernel
theorem d_L_law_385 : decode b_L_law 385 = .ok (.aload_n 0, 1) := by decide +kernel
theorem d_L_law_386 : decode b_L_law 386 = .ok (.iload 4, 2) := by decide +kernel
theorem d_L_law_388 : decode b_L_law 388 = .ok (.iconst 2, 1) := by decide +kernel
theorem d_L_law_389 : decode b_L_law 389 = .ok (.iadd, 1) := by decide +kernel
theorem d_L_law_390 : decode b_L_law 390 = .ok (.iaload, 1) := by decide +kernel
theorem d_L_law_391 : decode b_L_law 391 = .ok (.aload_n 0, 1) := by decide +kernel
theorem d_L_law_392 : decode b_L_law 392 = .ok (.iload 4, 2) := by decide +kernel
theorem d_L_law_394 : decode b_L_law 394 = .ok (.iconst 3, 1) := by decide +kernel
theorem d_L_law_395 : decode b_L_law 395 = .ok (.iadd, 1) := by decide +kernel
theorem d_L_law_396 : decode b_L_law 396 = .ok (.iaload, 1) := by decide +kernel
theorem d_L_law_397 : decode b_L_law 397 = .ok (.aload_n 0, 1) := by decide +kernel
theorem d_L_law_398 : decode b_L_law 398 = .ok (.iload 4, 2) := by decide +kernel
theorem d_L_law_400 : decode b_L_law 400 = .ok (.iconst 4, 1) := by decide +kernel
theorem d_L_law_401 : decode b_L_law 401 = .ok (.iadd, 1) := by decide +kernel
theorem d_L_law_402 : decode b_L_law 402 = .ok (.iaload, 1) := by decide +kernel
theorem d_L_law_403 : decode b_L_law 403 = .ok (.aload_n 0, 1) := by decide +kernel
theorem d_L_law_404 : decode b_L_law 404 = .ok (.iload 4, 2) := by decide +kernel
theorem d_L_law_406 : decode b_L_law 406 = .ok (.iconst 5, 1) := by decide +kernel
theorem d_L_law_407 : decode b_L_law 407 = .ok (.iadd, 1) := by decide +kernel
theorem d_L_law_408 : decode b_L_law 408 = .ok (.iaload, 1) := by decide +kernel
theorem d_L_law_409 : decode b_L_law 409 = .ok (.i2l, 1) := by decide +kernel
theorem d_L_law_410 : decode b_L_law 410 = .ok (.bipush 32, 2) := by decide +kernel
theorem d_L_law_412 : decode b_L_law 412 = .ok (.lshl, 1) := by decide +kernel
theorem d_L_law_413 : decode b_L_law 413 = .ok (.aload_n 0, 1) := by decide +kernel
theorem d_L_law_414 : decode b_L_law 414 = .ok (.iload 4, 2) := by decide +kernel
theorem d_L_law_416 : decode b_L_law 416 = .ok (.bipush 6, 2) := by decide +kernel
theorem d_L_law_418 : decode b_L_law 418 = .ok (.iadd, 1) := by decide +kernel
end
section
theorem d_L_law_419 : decode b_L_law 419 = .ok (.iaload, 1) := by decide +kernel
theorem d_L_law_420 : decode b_L_law 420 = .ok (.i2l, 1) := by decide +kernel
theorem d_L_law_421 : decode b_L_law 421 = .ok (.ldc2_w 70, 3) := by decide +kernel
theorem d_L_law_424 : decode b_L_law 424 = .ok (.land, 1) := by decide +kernel
theorem d_L_law_425 : decode b_L_law 425 = .ok (.lor, 1) := by decide +kernel
theorem d_L_law_426 : decode b_L_law 426 = .ok (.invokevirtual 75, 3) := by decide +kernel
theorem d_L_law_429 : decode b_L_law 429 = .ok (.istore 6, 2) := by decide +kernel
theorem d_L_law_431 : decode b_L_law 431 = .ok (.aload_n 2, 1) := by decide +kernel
theorem d_L_law_432 : decode b_L_law 432 = .ok (.invokevirtual 59, 3) := by decide +kernel
theorem d_L_law_435 : decode b_L_law 435 = .ok (.iload 5, 2) := by decide +kernel
theorem d_L_law_437 : decode b_L_law 437 = .ok (.if_icmp .eq 5, 3) := by decide +kernel
theorem d_L_law_440 : decode b_L_law 440 = .ok (.iconst 0, 1) := by decide +kernel
theorem d_L_law_441 : decode b_L_law 441 = .ok (.ireturn, 1) := by decide +kernel
theorem d_L_law_442 : decode b_L_law 442 = .ok (.iload 5, 2) := by decide +kernel
theorem d_L_law_444 : decode b_L_law 444 = .ok (.ifCond .ne 15, 3) := by decide +kernel
theorem d_L_law_447 : decode b_L_law 447 = .ok (.aload_n 3, 1) := by decide +kernel
theorem d_L_law_448 : decode b_L_law 448 = .ok (.iconst 0, 1) := by decide +kernel
theorem d_L_law_449 : decode b_L_law 449 = .ok (.laload, 1) := by decide +kernel
theorem d_L_law_450 : decode b_L_law 450 = .ok (.iload 6, 2) := by decide +kernel
theorem d_L_law_452 : decode b_L_law 452 = .ok (.i2l, 1) := by decide +kernel
theorem d_L_law_453 : decode b_L_law 453 = .ok (.lcmp, 1) := by decide +kernel
theorem d_L_law_454 : decode b_L_law 454 = .ok (.ifCond .eq 5, 3) := by decide +kernel
theorem d_L_law_457 : decode b_L_law 457 = .ok (.iconst 0, 1) := by decide +kernel
theorem d_L_law_458 : decode b_L_law 458 = .ok (.ireturn, 1) := by decide +kernel
theorem d_L_law_459 : decode b_L_law 459 = .ok (.goto 344, 3) := by decide +kernel
theorem d_L_law_462 : decode b_L_law 462 = .ok (.aload_n 1, 1) := by decide +kernel
theorem d_L_law_463 : decode b_L_law 463 = .ok (.aload_n 0, 1) := by decide +kernel
theorem d_L_law_464 : decode b_L_law 464 = .ok (.iload 4, 2) := by decide +kernel
theorem d_L_law_466 : decode b_L_law 466 = .ok (.iconst 1, 1) := by decide +kernel
theorem d_L_law_467 : decode b_L_law 467 = .ok (.iadd, 1) := by decide +kernel
theorem d_L_law_468 : decode b_L_law 468 = .ok (.iaload, 1) := by decide +kernel
theorem d_L_law_469 : decode b_L_law 469 = .ok (.aload_n 0, 1) := by decide +kernel
theorem d_L_law_470 : decode b_L_law 470 = .ok (.iload 4, 2) := by decide +kernel
theorem d_L_law_472 : decode b_L_law 472 = .ok (.iconst 2, 1) := by decide +kernel
theorem d_L_law_473 : decode b_L_law 473 = .ok (.iadd, 1) := by decide +kernel
theorem d_L_law_474 : decode b_L_law 474 = .ok (.iaload, 1) := by decide +kernel
theorem d_L_law_475 : decode b_L_law 475 = .ok (.aload_n 3, 1) := by decide +kernel
theorem d_L_law_476 : decode b_L_law 476 = .ok (.invokestatic 76, 3) := by decide +kernel
theorem d_L_law_479 : decode b_L_law 479 = .ok (.istore 5, 2) := by decide +kernel
theorem d_L_law_481 : decode b_L_law 481 = .ok (.aload_n 2, 1) := by decide +kernel
theorem d_L_law_482 : decode b_L_law 482 = .ok (.aload_n 0, 1) := by decide +kernel
theorem d_L_law_483 : decode b_L_law 483 = .ok (.iload 4, 2) := by decide +kernel
theorem d_L_law_485 : decode b_L_law 485 = .ok (.iconst 1, 1) := by decide +kernel
theorem d_L_law_486 : decode b_L_law 486 = .ok (.iadd, 1) := by decide +kernel
theorem d_L_law_487 : decode b_L_law 487 = .ok (.iaload, 1) := by decide +kernel
theorem d_L_law_488 : decode b_L_law 488 = .ok (.aload_n 0, 1) := by decide +kernel
theorem d_L_law_489 : decode b_L_law 489 = .ok (.iload 4, 2) := by decide +kernel
theorem d_L_law_491 : decode b_L_law 491 = .ok (.iconst 2, 1) := by decide +kernel
theorem d_L_law_492 : decode b_L_law 492 = .ok (.iadd, 1) := by decide +kernel
theorem d_L_law_493 : decode b_L_law 493 = .ok (.iaload, 1) := by decide +kernel
theorem d_L_law_494 : decode b_L_law 494 = .ok (.invokevirtual 78, 3) := by decide +kernel
theorem d_L_law_497 : decode b_L_law 497 = .ok (.lstore 6, 2) := by decide +kernel
theorem d_L_law_499 : decode b_L_law 499 = .ok (.aload_n 2, 1) := by decide +kernel
theorem d_L_law_500 : decode b_L_law 500 = .ok (.invokevirtual 59, 3) := by decide +kernel
theorem d_L_law_503 : decode b_L_law 503 = .ok (.iload 5, 2) := by decide +kernel
theorem d_L_law_505 : decode b_L_law 505 = .ok (.if_icmp .eq 5, 3) := by decide +kernel
theorem d_L_law_508 : decode b_L_law 508 = .ok (.iconst 0, 1) := by decide +kernel
theorem d_L_law_509 : decode b_L_law 509 = .ok (.ireturn, 1) := by decide +kernel
theorem d_L_law_510 : decode b_L_law 510 = .ok (.iload 5, 2) := by decide +kernel
theorem d_L_law_512 : decode b_L_law 512 = .ok (.ifCond .ne 14, 3) := by decide +kernel
theorem d_L_law_515 : decode b_L_law 515 = .ok (.aload_n 3, 1) := by decide +kernel
theorem d_L_law_516 : decode b_L_law 516 = .ok (.iconst 0, 1) := by decide +kernel
theorem d_L_law_517 : decode b_L_law 517 = .ok (.laload, 1) := by decide +kernel
theorem d_L_law_518 : decode b_L_law 518 = .ok (.lload 6, 2) := by decide +kernel
theorem d_L_law_520 : decode b_L_law 520 = .ok (.lcmp, 1) := by decide +kernel
theorem d_L_law_521 : decode b_L_law 521 = .ok (.ifCond .eq 5, 3) := by decide +kernel
theorem d_L_law_524 : decode b_L_law 524 = .ok (.iconst 0, 1) := by decide +kernel
theorem d_L_law_525 : decode b_L_law 525 = .ok (.ireturn, 1) := by decide +kernel
theorem d_L_law_526 : decode b_L_law 526 = .ok (.goto 277, 3) := by decide +kernel
theorem d_L_law_529 : decode b_L_law 529 = .ok (.aload_n 1, 1) := by decide +kernel
theorem d_L_law_530 : decode b_L_law 530 = .ok (.aload_n 0, 1) := by decide +kernel
theorem d_L_law_531 : decode b_L_law 531 = .ok (.iload 4, 2) := by decide +kernel
theorem d_L_law_533 : decode b_L_law 533 = .ok (.iconst 1, 1) := by decide +kernel
theorem d_L_law_534 : decode b_L_law 534 = .ok (.iadd, 1) := by decide +kernel
theorem d_L_law_535 : decode b_L_law 535 = .ok (.iaload, 1) := by decide +kernel
theorem d_L_law_536 : decode b_L_law 536 = .ok (.aload_n 0, 1) := by decide +kernel
theorem d_L_law_537 : decode b_L_law 537 = .ok (.iload 4, 2) := by decide +kernel
theorem d_L_law_539 : decode b_L_law 539 = .ok (.iconst 2, 1) := by decide +kernel
theorem d_L_law_540 : decode b_L_law 540 = .ok (.iadd, 1) := by decide +kernel
theorem d_L_law_541 : decode b_L_law 541 = .ok (.iaload, 1) := by decide +kernel
theorem d_L_law_542 : decode b_L_law 542 = .ok (.aload_n 3, 1) := by decide +kernel
theorem d_L_law_543 : decode b_L_law 543 = .ok (.invokestatic 79, 3) := by decide +kernel
theorem d_L_law_546 : decode b_L_law 546 = .ok (.istore 5, 2) := by decide +kernel
theorem d_L_law_548 : decode b_L_law 548 = .ok (.aload_n 2, 1) := by decide +kernel
theorem d_L_law_549 : decode b_L_law 549 = .ok (.aload_n 0, 1) := by decide +kernel
theorem d_L_law_550 : decode b_L_law 550 = .ok (.iload 4, 2) := by decide +kernel
theorem d_L_law_552 : decode b_L_law 552 = .ok (.iconst 1, 1) := by decide +kernel
theorem d_L_law_553 : decode b_L_law 553 = .ok (.iadd, 1) := by decide +kernel
theorem d_L_law_554 : decode b_L_law 554 = .ok (.iaload, 1) := by decide +kernel
theorem d_L_law_555 : decode b_L_law 555 = .ok (.aload_n 0, 1) := by decide +kernel
theorem d_L_law_556 : decode b_L_law 556 = .ok (.iload 4, 2) := by decide +kernel
theorem d_L_law_558 : decode b_L_law 558 = .ok (.iconst 2, 1) := by decide +kernel
theorem d_L_law_559 : decode b_L_law 559 = .ok (.iadd, 1) := by decide +kernel
theorem d_L_law_560 : decode b_L_law 560 = .ok (.iaload, 1) := by decide +kernel
theorem d_L_law_561 : decode b_L_law 561 = .ok (.invokevirtual 81, 3) := by decide +kernel
theorem d_L_law_564 : decode b_L_law 564 = .ok (.istore 6, 2) := by decide +kernel
theorem d_L_law_566 : decode b_L_law 566 = .ok (.aload_n 2, 1) := by decide +kernel
theorem d_L_law_567 : decode b_L_law 567 = .ok (.invokevirtual 59, 3) := by decide +kernel
theorem d_L_law_570 : decode b_L_law 570 = .ok (.iload 5, 2) := by decide +kernel
theorem d_L_law_572 : decode b_L_law 572 = .ok (.if_icmp .eq 5, 3) := by decide +kernel
theorem d_L_law_575 : decode b_L_law 575 = .ok (.iconst 0, 1) := by decide +kernel
theorem d_L_law_576 : decode b_L_law 576 = .ok (.ireturn, 1) := by decide +kernel
theorem d_L_law_577 : decode b_L_law 577 = .ok (.iload 5, 2) := by decide +kernel
theorem d_L_law_579 : decode b_L_law 579 = .ok (.ifCond .ne 15, 3) := by decide +kernel
theorem d_L_law_582 : decode b_L_law 582 = .ok (.aload_n 3, 1) := by decide +kernel
theorem d_L_law_583 : decode b_L_law 583 = .ok (.iconst 0, 1) := by decide +kernel
theorem d_L_law_584 : decode b_L_law 584 = .ok (.laload, 1) := by decide +kernel
theorem d_L_law_585 : decode b_L_law 585 = .ok (.iload 6, 2) := by decide +kernel
theorem d_L_law_587 : decode b_L_law 587 = .ok (.i2l, 1) := by decide +kernel
theorem d_L_law_588 : decode b_L_law 588 = .ok (.lcmp, 1) := by decide +kernel
theorem d_L_law_589 : decode b_L_law 589 = .ok (.ifCond .eq 5, 3) := by decide +kernel
theorem d_L_law_592 : decode b_L_law 592 = .ok (.iconst 0, 1) := by decide +kernel
theorem d_L_law_593 : decode b_L_law 593 = .ok (.ireturn, 1) := by decide +kernel
theorem d_L_law_594 : decode b_L_law 594 = .ok (.goto 209, 3) := by decide +kernel
theorem d_L_law_597 : decode b_L_law 597 = .ok (.aload_n 1, 1) := by decide +kernel
theorem d_L_law_598 : decode b_L_law 598 = .ok (.aload_n 0, 1) := by decide +kernel
theorem d_L_law_599 : decode b_L_law 599 = .ok (.iload 4, 2) := by decide +kernel
theorem d_L_law_601 : decode b_L_law 601 = .ok (.iconst 1, 1) := by decide +kernel
theorem d_L_law_602 : decode b_L_law 602 = .ok (.iadd, 1) := by decide +kernel
theorem d_L_law_603 : decode b_L_law 603 = .ok (.iaload, 1) := by decide +kernel
theorem d_L_law_604 : decode b_L_law 604 = .ok (.aload_n 0, 1) := by decide +kernel
theorem d_L_law_605 : decode b_L_law 605 = .ok (.iload 4, 2) := by decide +kernel
theorem d_L_law_607 : decode b_L_law 607 = .ok (.iconst 2, 1) := by decide +kernel
theorem d_L_law_608 : decode b_L_law 608 = .ok (.iadd, 1) := by decide +kernel
theorem d_L_law_609 : decode b_L_law 609 = .ok (.iaload, 1) := by decide +kernel
end
section
theorem d_L_law_610 : decode b_L_law 610 = .ok (.aload_n 3, 1) := by decide +kernel
theorem d_L_law_611 : decode b_L_law 611 = .ok (.invokestatic 82, 3) := by decide +kernel
theorem d_L_law_614 : decode b_L_law 614 = .ok (.istore 5, 2) := by decide +kernel
theorem d_L_law_616 : decode b_L_law 616 = .ok (.aload_n 2, 1) := by decide +kernel
theorem d_L_law_617 : decode b_L_law 617 = .ok (.aload_n 0, 1) := by decide +kernel
theorem d_L_law_618 : decode b_L_law 618 = .ok (.iload 4, 2) := by decide +kernel
theorem d_L_law_620 : decode b_L_law 620 = .ok (.iconst 1, 1) := by decide +kernel
theorem d_L_law_621 : decode b_L_law 621 = .ok (.iadd, 1) := by decide +kernel
theorem d_L_law_622 : decode b_L_law 622 = .ok (.iaload, 1) := by decide +kernel
theorem d_L_law_623 : decode b_L_law 623 = .ok (.aload_n 0, 1) := by decide +kernel
theorem d_L_law_624 : decode b_L_law 624 = .ok (.iload 4, 2) := by decide +kernel
theorem d_L_law_626 : decode b_L_law 626 = .ok (.iconst 2, 1) := by decide +kernel
theorem d_L_law_627 : decode b_L_law 627 = .ok (.iadd, 1) := by decide +kernel
theorem d_L_law_628 : decode b_L_law 628 = .ok (.iaload, 1) := by decide +kernel
theorem d_L_law_629 : decode b_L_law 629 = .ok (.invokevirtual 84, 3) := by decide +kernel
theorem d_L_law_632 : decode b_L_law 632 = .ok (.istore 6, 2) := by decide +kernel
theorem d_L_law_634 : decode b_L_law 634 = .ok (.aload_n 2, 1) := by decide +kernel
theorem d_L_law_635 : decode b_L_law 635 = .ok (.invokevirtual 59, 3) := by decide +kernel
theorem d_L_law_638 : decode b_L_law 638 = .ok (.iload 5, 2) := by decide +kernel
theorem d_L_law_640 : decode b_L_law 640 = .ok (.if_icmp .eq 5, 3) := by decide +kernel
theorem d_L_law_643 : decode b_L_law 643 = .ok (.iconst 0, 1) := by decide +kernel
theorem d_L_law_644 : decode b_L_law 644 = .ok (.ireturn, 1) := by decide +kernel
theorem d_L_law_645 : decode b_L_law 645 = .ok (.iload 5, 2) := by decide +kernel
theorem d_L_law_647 : decode b_L_law 647 = .ok (.ifCond .ne 15, 3) := by decide +kernel
theorem d_L_law_650 : decode b_L_law 650 = .ok (.aload_n 3, 1) := by decide +kernel
theorem d_L_law_651 : decode b_L_law 651 = .ok (.iconst 0, 1) := by decide +kernel
theorem d_L_law_652 : decode b_L_law 652 = .ok (.laload, 1) := by decide +kernel
theorem d_L_law_653 : decode b_L_law 653 = .ok (.iload 6, 2) := by decide +kernel
theorem d_L_law_655 : decode b_L_law 655 = .ok (.i2l, 1) := by decide +kernel
theorem d_L_law_656 : decode b_L_law 656 = .ok (.lcmp, 1) := by decide +kernel
theorem d_L_law_657 : decode b_L_law 657 = .ok (.ifCond .eq 5, 3) := by decide +kernel
theorem d_L_law_660 : decode b_L_law 660 = .ok (.iconst 0, 1) := by decide +kernel
theorem d_L_law_661 : decode b_L_law 661 = .ok (.ireturn, 1) := by decide +kernel
theorem d_L_law_662 : decode b_L_law 662 = .ok (.goto 141, 3) := by decide +kernel
theorem d_L_law_665 : decode b_L_law 665 = .ok (.aload_n 1, 1) := by decide +kernel
theorem d_L_law_666 : decode b_L_law 666 = .ok (.aload_n 0, 1) := by decide +kernel
theorem d_L_law_667 : decode b_L_law 667 = .ok (.iload 4, 2) := by decide +kernel
theorem d_L_law_669 : decode b_L_law 669 = .ok (.iconst 1, 1) := by decide +kernel
theorem d_L_law_670 : decode b_L_law 670 = .ok (.iadd, 1) := by decide +kernel
theorem d_L_law_671 : decode b_L_law 671 = .ok (.iaload, 1) := by decide +kernel
theorem d_L_law_672 : decode b_L_law 672 = .ok (.aload_n 3, 1) := by decide +kernel
theorem d_L_law_673 : decode b_L_law 673 = .ok (.invokestatic 85, 3) := by decide +kernel
theorem d_L_law_676 : decode b_L_law 676 = .ok (.istore 5, 2) := by decide +kernel
theorem d_L_law_678 : decode b_L_law 678 = .ok (.aload_n 2, 1) := by decide +kernel
theorem d_L_law_679 : decode b_L_law 679 = .ok (.aload_n 0, 1) := by decide +kernel
theorem d_L_law_680 : decode b_L_law 680 = .ok (.iload 4, 2) := by decide +kernel
theorem d_L_law_682 : decode b_L_law 682 = .ok (.iconst 1, 1) := by decide +kernel
theorem d_L_law_683 : decode b_L_law 683 = .ok (.iadd, 1) := by decide +kernel
theorem d_L_law_684 : decode b_L_law 684 = .ok (.iaload, 1) := by decide +kernel
theorem d_L_law_685 : decode b_L_law 685 = .ok (.invokevirtual 88, 3) := by decide +kernel
theorem d_L_law_688 : decode b_L_law 688 = .ok (.istore 6, 2) := by decide +kernel
theorem d_L_law_690 : decode b_L_law 690 = .ok (.aload_n 2, 1) := by decide +kernel
theorem d_L_law_691 : decode b_L_law 691 = .ok (.invokevirtual 59, 3) := by decide +kernel
theorem d_L_law_694 : decode b_L_law 694 = .ok (.iload 5, 2) := by decide +kernel
theorem d_L_law_696 : decode b_L_law 696 = .ok (.if_icmp .eq 5, 3) := by decide +kernel
theorem d_L_law_699 : decode b_L_law 699 = .ok (.iconst 0, 1) := by decide +kernel
theorem d_L_law_700 : decode b_L_law 700 = .ok (.ireturn, 1) := by decide +kernel
theorem d_L_law_701 : decode b_L_law 701 = .ok (.iload 5, 2) := by decide +kernel
theorem d_L_law_703 : decode b_L_law 703 = .ok (.ifCond .ne 15, 3) := by decide +kernel
theorem d_L_law_706 : decode b_L_law 706 = .ok (.aload_n 3, 1) := by decide +kernel
theorem d_L_law_707 : decode b_L_law 707 = .ok (.iconst 0, 1) := by decide +kernel
theorem d_L_law_708 : decode b_L_law 708 = .ok (.laload, 1) := by decide +kernel
theorem d_L_law_709 : decode b_L_law 709 = .ok (.iload 6, 2) := by decide +kernel
theorem d_L_law_711 : decode b_L_law 711 = .ok (.i2l, 1) := by decide +kernel
theorem d_L_law_712 : decode b_L_law 712 = .ok (.lcmp, 1) := by decide +kernel
theorem d_L_law_713 : decode b_L_law 713 = .ok (.ifCond .eq 5, 3) := by decide +kernel
theorem d_L_law_716 : decode b_L_law 716 = .ok (.iconst 0, 1) := by decide +kernel
theorem d_L_law_717 : decode b_L_law 717 = .ok (.ireturn, 1) := by decide +kernel
theorem d_L_law_718 : decode b_L_law 718 = .ok (.goto 85, 3) := by decide +kernel
theorem d_L_law_721 : decode b_L_law 721 = .ok (.aload_n 1, 1) := by decide +kernel
theorem d_L_law_722 : decode b_L_law 722 = .ok (.invokevirtual 89, 3) := by decide +kernel
theorem d_L_law_725 : decode b_L_law 725 = .ok (.aload_n 2, 1) := by decide +kernel
theorem d_L_law_726 : decode b_L_law 726 = .ok (.invokevirtual 92, 3) := by decide +kernel
theorem d_L_law_729 : decode b_L_law 729 = .ok (.if_icmp .eq 74, 3) := by decide +kernel
theorem d_L_law_732 : decode b_L_law 732 = .ok (.iconst 0, 1) := by decide +kernel
theorem d_L_law_733 : decode b_L_law 733 = .ok (.ireturn, 1) := by decide +kernel
theorem d_L_law_734 : decode b_L_law 734 = .ok (.aload_n 1, 1) := by decide +kernel
theorem d_L_law_735 : decode b_L_law 735 = .ok (.aload_n 0, 1) := by decide +kernel
theorem d_L_law_736 : decode b_L_law 736 = .ok (.iload 4, 2) := by decide +kernel
theorem d_L_law_738 : decode b_L_law 738 = .ok (.iconst 1, 1) := by decide +kernel
theorem d_L_law_739 : decode b_L_law 739 = .ok (.iadd, 1) := by decide +kernel
theorem d_L_law_740 : decode b_L_law 740 = .ok (.iaload, 1) := by decide +kernel
theorem d_L_law_741 : decode b_L_law 741 = .ok (.aload_n 3, 1) := by decide +kernel
theorem d_L_law_742 : decode b_L_law 742 = .ok (.invokestatic 93, 3) := by decide +kernel
theorem d_L_law_745 : decode b_L_law 745 = .ok (.istore 5, 2) := by decide +kernel
theorem d_L_law_747 : decode b_L_law 747 = .ok (.aload_n 2, 1) := by decide +kernel
theorem d_L_law_748 : decode b_L_law 748 = .ok (.aload_n 0, 1) := by decide +kernel
theorem d_L_law_749 : decode b_L_law 749 = .ok (.iload 4, 2) := by decide +kernel
theorem d_L_law_751 : decode b_L_law 751 = .ok (.iconst 1, 1) := by decide +kernel
theorem d_L_law_752 : decode b_L_law 752 = .ok (.iadd, 1) := by decide +kernel
theorem d_L_law_753 : decode b_L_law 753 = .ok (.iaload, 1) := by decide +kernel
theorem d_L_law_754 : decode b_L_law 754 = .ok (.invokevirtual 95, 3) := by decide +kernel
theorem d_L_law_757 : decode b_L_law 757 = .ok (.istore 6, 2) := by decide +kernel
theorem d_L_law_759 : decode b_L_law 759 = .ok (.aload_n 2, 1) := by decide +kernel
theorem d_L_law_760 : decode b_L_law 760 = .ok (.invokevirtual 59, 3) := by decide +kernel
theorem d_L_law_763 : decode b_L_law 763 = .ok (.iload 5, 2) := by decide +kernel
theorem d_L_law_765 : decode b_L_law 765 = .ok (.if_icmp .eq 5, 3) := by decide +kernel
theorem d_L_law_768 : decode b_L_law 768 = .ok (.iconst 0, 1) := by decide +kernel
theorem d_L_law_769 : decode b_L_law 769 = .ok (.ireturn, 1) := by decide +kernel
theorem d_L_law_770 : decode b_L_law 770 = .ok (.iload 5, 2) := by decide +kernel
theorem d_L_law_772 : decode b_L_law 772 = .ok (.ifCond .ne 15, 3) := by decide +kernel
theorem d_L_law_775 : decode b_L_law 775 = .ok (.aload_n 3, 1) := by decide +kernel
theorem d_L_law_776 : decode b_L_law 776 = .ok (.iconst 0, 1) := by decide +kernel
theorem d_L_law_777 : decode b_L_law 777 = .ok (.laload, 1) := by decide +kernel
theorem d_L_law_778 : decode b_L_law 778 = .ok (.iload 6, 2) := by decide +kernel
theorem d_L_law_780 : decode b_L_law 780 = .ok (.i2l, 1) := by decide +kernel
theorem d_L_law_781 : decode b_L_law 781 = .ok (.lcmp, 1) := by decide +kernel
theorem d_L_law_782 : decode b_L_law 782 = .ok (.ifCond .eq 5, 3) := by decide +kernel
theorem d_L_law_785 : decode b_L_law 785 = .ok (.iconst 0, 1) := by decide +kernel
theorem d_L_law_786 : decode b_L_law 786 = .ok (.ireturn, 1) := by decide +kernel
theorem d_L_law_787 : decode b_L_law 787 = .ok (.goto 16, 3) := by decide +kernel
theorem d_L_law_790 : decode b_L_law 790 = .ok (.aload_n 1, 1) := by decide +kernel
theorem d_L_law_791 : decode b_L_law 791 = .ok (.invokevirtual 96, 3) := by decide +kernel
theorem d_L_law_794 : decode b_L_law 794 = .ok (.aload_n 2, 1) := by decide +kernel
theorem d_L_law_795 : decode b_L_law 795 = .ok (.invokevirtual 99, 3) := by decide +kernel
theorem d_L_law_798 : decode b_L_law 798 = .ok (.if_icmp .eq 5, 3) := by decide +kernel
theorem d_L_law_801 : decode b_L_law 801 = .ok (.iconst 0, 1) := by decide +kernel
theorem d_L_law_802 : decode b_L_law 802 = .ok (.ireturn, 1) := by decide +kernel
theorem d_L_law_803 : decode b_L_law 803 = .ok (.iinc 4 7, 3) := by decide +kernel
theorem d_L_law_806 : decode b_L_law 806 = .ok (.goto (-773), 3) := by decide +kernel
theorem d_L_law_809 : decode b_L_law 809 = .ok (.iconst 1, 1) := by decide +kernel
theorem d_L_law_810 : decode b_L_law 810 = .ok (.ireturn, 1) := by decide +kernel
end
section
/-! worlds as lists of cells: apart by their addresses; the start and the end of a method over such a world; calls -/
theorem kl_D {A : Nat → Prop} {ws : va_W} (h : (ws.map Prod.fst).Nodup) (hA : ∀ q ∈ ws.map Prod.fst, A q) : va_D A ws := by
  refine ⟨fun i j x y hi hj e => ?_, fun k q hk => hA _ (List.mem_map.mpr ⟨q, List.mem_of_getElem? hk, rfl⟩)⟩
  have h1 : (ws.map Prod.fst)[i]? = some x.1 := by rw [List.getElem?_map, hi]; rfl
  have h2 : (ws.map Prod.fst)[j]? = some y.1 := by rw [List.getElem?_map, hj]; rfl
  have hl : i < (ws.map Prod.fst).length := (List.getElem?_eq_some_iff.mp h1).1
  exact (List.getElem?_inj hl h).mp (by rw [h1, h2, e])
theorem kl_get {α : Type} {N n : Nat} {f : Nat → α} (hn : n < N) : ((List.range N).map f)[n]? = some (f n) := by simp [hn]
theorem kl_set {α : Type} {N n : Nat} {f f' : Nat → α} {x : α} (hn : n < N) (h1 : f' n = x) (h2 : ∀ q, q < N → q ≠ n → f' q = f q) : ((List.range N).map f).set n x = (List.range N).map f' := by
  apply List.ext_getElem?
  intro i
  by_cases hi : i = n
  · subst hi
    rw [List.getElem?_set_self (by simpa using hn), kl_get hn, h1]
  · rw [List.getElem?_set_ne (Ne.symm hi)]
    by_cases hN : i < N
    · rw [kl_get hN, kl_get hN, h2 i hN hi]
    · simp [hN]
/-- where a method may write: the cells L, and those that it makes -/
def kA (L : List Nat) (sz : Nat) : Nat → Prop := fun q => q ∈ L ∨ sz ≤ q
/-- a method's start: its arguments, its world, the tables -/
def kPre (D : va_G) (cl : List vw_C) (tys : List (ClassId × FieldType)) (As : List Value) (sz : Nat) (ws : va_W) : Array Value → State → Prop := fun v U => v = As.toArray ∧ U.heap.size = sz ∧ va_P D cl ws U.heap ∧ va_K D cl tys U
theorem kPre_blind {D : va_G} {cl : List vw_C} {tys : List (ClassId × FieldType)} {As : List Value} {sz : Nat} {ws : va_W} : FrameBlind (kPre D cl tys As sz ws) := fun a U g mk q => ⟨q.1, q.2.1, q.2.2.1, va_K.moved (u := U) (U := U.calling g mk a) (Vm.Alike.refl U.vm) q.2.2.2⟩
section KBA
variable {p : Program} {l : Launch} {e : Env} {R : Room} {s : State} {m : MethodId} {args : Array Value} {below : List Frame} {meth : Method} {c : Code} {H : Heap} {locs : List Loc} {cells slots : Nat} {Q : State → Prop}
variable {D : va_G} {cl : List vw_C} {tys : List (ClassId × FieldType)} {ws : va_W} {A : Nat → Prop} {L : List Nat} {pc mc ms : Nat} {ls : Array Slot} {st0 rest As : List Value} {a : Array Value} {b : Nat} {C : String}
theorem kPV (hr : ∃ cell : Cell, H[b]? = some cell ∧ cell.vm.isStatics = false ∧ s.vm.findClass C = some cell.cls) (hP : va_P D cl ws H) (hK : va_K D cl tys s) : PreV s H C b (kPre D cl tys (.ref b :: As) H.size ws) As :=
  ⟨kPre_blind, hr, fun U hU hW => ⟨rfl, by rw [hU], by rw [hU]; exact hP, va_K.moved hW.alike hK⟩⟩
theorem kPS (hP : va_P D cl ws H) (hK : va_K D cl tys s) : PreS s H (kPre D cl tys As H.size ws) As :=
  ⟨kPre_blind, fun U hU hW => ⟨rfl, by rw [hU], by rw [hU]; exact hP, va_K.moved hW.alike hK⟩⟩
theorem kA_sub (hS : va_S A s.heap H locs) (hA : ∀ q, s.heap.size ≤ q → A q) (hL : ∀ q ∈ L, A q) : ∀ q, kA L H.size q → A q := by
  intro q h
  rcases h with h | h
  · exact hL q h
  · exact hA q (Nat.le_trans hS.1 h)
theorem kA_out {H1 : Heap} (hk : ∀ q : Nat, q < H.size → ¬ kA L H.size q → H1[q]? = H[q]?) : ∀ q : Nat, q < H.size → q ∉ L → H1[q]? = H[q]? := by
  intro q h1 h2
  refine hk q h1 (fun h => ?_)
  rcases h with h | h
  · exact h2 h
  · omega
theorem kc_i {σ : Type} {post : Int32 → σ → Prop} {Wd : σ → va_W} (hr : va_Run p l e R s m args below meth c H locs cells slots mc ms (F0 m pc ls st0) rest (va_Qi post (fun u t => va_P D cl (Wd u) t.heap) (kA L H.size) a) (kA L H.size)) (hS : va_S A s.heap H locs) (hA : ∀ q, s.heap.size ≤ q → A q) (hL : ∀ q ∈ L, A q)
    (kk : ∀ (r : Int32) (u : σ) (H1 : Heap) (locs1 : List Loc), post r u → va_P D cl (Wd u) H1 → H.size ≤ H1.size → (∀ q : Nat, q < H.size → q ∉ L → H1[q]? = H[q]?) → va_S A s.heap H1 locs1 → W p l e R s m args below meth c H1 locs1 (cells + mc) (slots + ms) Q (F0 m (pc + 3) ls (.int r :: rest))) : W p l e R s m args below meth c H locs cells slots Q (F0 m pc ls st0) := by
  have hA1 := kA_sub hS hA hL
  refine va_calli hr hS (fun q _ h => hA1 q h) hA1 (fun r u t H1 locs1 ht hvm hw hB hz hk hS1 => ?_)
  exact kk r u H1 locs1 hw (by rw [← ht]; exact hB) hz (kA_out hk) hS1
theorem kc_l {σ : Type} {post : Int64 → σ → Prop} {Wd : σ → va_W} (hr : va_Run p l e R s m args below meth c H locs cells slots mc ms (F0 m pc ls st0) rest (va_Ql post (fun u t => va_P D cl (Wd u) t.heap) (kA L H.size) a) (kA L H.size)) (hS : va_S A s.heap H locs) (hA : ∀ q, s.heap.size ≤ q → A q) (hL : ∀ q ∈ L, A q)
    (kk : ∀ (r : Int64) (u : σ) (H1 : Heap) (locs1 : List Loc), post r u → va_P D cl (Wd u) H1 → H.size ≤ H1.size → (∀ q : Nat, q < H.size → q ∉ L → H1[q]? = H[q]?) → va_S A s.heap H1 locs1 → W p l e R s m args below meth c H1 locs1 (cells + mc) (slots + ms) Q (F0 m (pc + 3) ls (.long r :: rest))) : W p l e R s m args below meth c H locs cells slots Q (F0 m pc ls st0) := by
  have hA1 := kA_sub hS hA hL
  refine va_calll hr hS (fun q _ h => hA1 q h) hA1 (fun r u t H1 locs1 ht hvm hw hB hz hk hS1 => ?_)
  exact kk r u H1 locs1 hw (by rw [← ht]; exact hB) hz (kA_out hk) hS1
theorem kc_v {σ : Type} {post : σ → Prop} {Wd : σ → va_W} (hr : va_Run p l e R s m args below meth c H locs cells slots mc ms (F0 m pc ls st0) rest (va_Qv post (fun u t => va_P D cl (Wd u) t.heap) (kA L H.size) a) (kA L H.size)) (hS : va_S A s.heap H locs) (hA : ∀ q, s.heap.size ≤ q → A q) (hL : ∀ q ∈ L, A q)
    (kk : ∀ (u : σ) (H1 : Heap) (locs1 : List Loc), post u → va_P D cl (Wd u) H1 → H.size ≤ H1.size → (∀ q : Nat, q < H.size → q ∉ L → H1[q]? = H[q]?) → va_S A s.heap H1 locs1 → W p l e R s m args below meth c H1 locs1 (cells + mc) (slots + ms) Q (F0 m (pc + 3) ls rest)) : W p l e R s m args below meth c H locs cells slots Q (F0 m pc ls st0) := by
  have hA1 := kA_sub hS hA hL
  refine va_callv hr hS (fun q _ h => hA1 q h) hA1 (fun u t H1 locs1 ht hvm hw hB hz hk hS1 => ?_)
  exact kk u H1 locs1 hw (by rw [← ht]; exact hB) hz (kA_out hk) hS1
/-- one cell of a world was changed by a callee that had it alone -/
theorem kl_one {H1 : Heap} {k x : Nat} {e0 e1 : va_E} (hP : va_P D cl ws H) (hn : (ws.map Prod.fst).Nodup) (hk : ws[k]? = some (x, e0)) (hP1 : va_P D cl [(x, e1)] H1) (ho : ∀ q : Nat, q < H.size → q ∉ [x] → H1[q]? = H[q]?) : va_P D cl (ws.set k (x, e1)) H1 := by
  have hD : va_D (fun _ => True) ws := kl_D hn (fun _ _ => trivial)
  have hl := (List.getElem?_eq_some_iff.mp hk).1
  intro i q hi
  by_cases hik : i = k
  · subst hik
    rw [List.getElem?_set_self hl] at hi
    cases hi
    exact hP1 0 _ rfl
  · rw [List.getElem?_set_ne (Ne.symm hik)] at hi
    refine (hP i q hi).kept (ho q.1 (hP i q hi).lt (fun h => ?_))
    exact hik (hD.1 i k q (x, e0) hi hk (List.mem_singleton.mp h))
end KBA
end
section
/-! small rows: arrays that agree below their length; the machine's names for a loop -/
theorem ka_i {cA : ClassId} {n : Nat} {f f' : Nat → Int32} (h : ∀ q, q < n → f q = f' q) : vp_cell cA (n, .inl f) = vp_cell cA (n, .inl f') := by
  rw [vp_cell_i, vp_cell_i]
  unfold arrV
  congr 1
  apply Array.ext
  · simp
  · intro i h1 h2
    simp at h1
    simp [h i h1]
theorem ka_l {cA : ClassId} {n : Nat} {f f' : Nat → Int64} (h : ∀ q, q < n → f q = f' q) : vp_cell cA (n, .inr (.inl f)) = vp_cell cA (n, .inr (.inl f')) := by
  show arrV cA n (fun j => .long (f j)) = arrV cA n (fun j => .long (f' j))
  unfold arrV
  congr 1
  apply Array.ext
  · simp
  · intro i h1 h2
    simp at h1
    simp [h i h1]
theorem ka_Pi {D : va_G} {cl : List vw_C} {x : Nat} {cA : ClassId} {n : Nat} {f f' : Nat → Int32} {H : Heap} (hP : va_P D cl [(x, .inl (cA, n, .inl f))] H) (h : ∀ q, q < n → f q = f' q) : va_P D cl [(x, .inl (cA, n, .inl f'))] H := by
  intro k q hk
  match k, hk with
  | 0, hk =>
    cases hk
    show H[x]? = some (vp_cell cA (n, .inl f'))
    rw [← ka_i h]
    exact hP 0 _ rfl
  | k + 1, hk => simp at hk
theorem ka_Pl {D : va_G} {cl : List vw_C} {x : Nat} {cA : ClassId} {n : Nat} {f f' : Nat → Int64} {H : Heap} (hP : va_P D cl [(x, .inl (cA, n, .inr (.inl f)))] H) (h : ∀ q, q < n → f q = f' q) : va_P D cl [(x, .inl (cA, n, .inr (.inl f')))] H := by
  intro k q hk
  match k, hk with
  | 0, hk =>
    cases hk
    show H[x]? = some (vp_cell cA (n, .inr (.inl f')))
    rw [← ka_l h]
    exact hP 0 _ rfl
  | k + 1, hk => simp at hk
/-- what a world holds stays where a callee changed other cells -/
theorem kl_keep {D : va_G} {cl : List vw_C} {ws : va_W} {H H1 : Heap} {L : List Nat} (hP : va_P D cl ws H) (hd : ∀ q ∈ ws.map Prod.fst, q ∉ L) (ho : ∀ q : Nat, q < H.size → q ∉ L → H1[q]? = H[q]?) : va_P D cl ws H1 :=
  hP.kept (fun k q hk => ho q.1 (hP k q hk).lt (hd q.1 (List.mem_map.mpr ⟨q, List.mem_of_getElem? hk, rfl⟩)))
theorem kn_lt8 {x : Int32} (h0 : ¬ x < 0) (h8 : x < 8) : vp_in x 8 := by
  rw [vp_in_iff]
  rw [Int32.lt_iff_toInt_lt] at h0 h8
  simp at h0 h8
  omega
theorem kn_no0 {x : Int32} {n : Nat} (h : x < 0) : ¬ vp_in x n := fun q => q (Or.inl h)
theorem kn_ge {x y : Int32} {n : Nat} (hy : y.toInt = n) (h : ¬ x < y) : ¬ vp_in x n := by
  rw [vp_in_iff]
  rw [Int32.lt_iff_toInt_lt, hy] at h
  omega
theorem kn_lt {x y : Int32} {n : Nat} (hy : y.toInt = n) (h0 : ¬ x < 0) (h : x < y) : vp_in x n := by
  rw [vp_in_iff]
  rw [Int32.lt_iff_toInt_lt] at h0 h
  rw [hy] at h
  simp at h0
  omega
/-- a log's number, where there are at most eight -/
theorem k_in8 {x lg : Int32} (h : ∃ n : Nat, n ≤ 8 ∧ lg = nI n) (hp : ¬ x < 0 ∧ x < lg) : vp_in x 8 := by
  obtain ⟨n, hn, rfl⟩ := h
  have h1 := kn_lt (n := n) (nI_toInt (by omega)) hp.1 hp.2
  rw [vp_in_iff] at h1 ⊢
  omega
theorem k_lc {x : Int64} : 0 ≤ lg_cmp x 0 ↔ ¬ x < 0 := by
  unfold lg_cmp
  by_cases h1 : (0 : Int64) < x
  · simp [h1]
    exact Int64.le_of_lt h1
  · by_cases h2 : x = 0
    · subst h2; simp
    · have h3 : x < 0 := by
        rw [Int64.lt_iff_toInt_lt] at h1 ⊢
        have h4 : x.toInt ≠ (0 : Int64).toInt := fun q => h2 (Int64.toInt_inj.mp q)
        omega
      simp [h1, h2, h3]
theorem k_n1 {x : Int32} (h : ¬ x < 1) : ¬ x < 0 := by
  rw [Int32.lt_iff_toInt_lt] at h ⊢
  simp at h ⊢
  omega
end
section
/-! methods that may throw: their contracts, a throw, a call that may throw, a catch -/
section KTA
variable {p : Program} {l : Launch} {e : Env} {R : Room} {s : State} {m : MethodId} {args : Array Value} {below : List Frame} {meth : Method} {c : Code} {H : Heap} {locs : List Loc} {cells slots : Nat} {Q : State → Prop}
/-- what has moved when a method is over, by an answer or by a throw -/
def kt_E (s t : State) (L : List Loc) (k n : Nat) : Prop := s.WarmedH t.vm ∧ s.sameButNew ({ t with vm := s.vm } : State) L k n
def kt_Q (below : List Frame) (Qc : Array Value → State → Outcome → State → Prop) (a : Array Value) (s : State) (mc ms : Nat) (free : Addr → Prop) : State → Prop := fun t =>
  ∃ o, t.status = .running ∧ Ended t below o ∧ Qc a s o t ∧ ∃ L, kt_E s t L mc ms ∧ ∀ q ∈ L, free q.base
/-- a contract of a method that answers or throws -/
def MetT (l : Launch) (y : MethodName) (ws : List Cond) (rm : Room) (Pc : Array Value → State → Prop) (Qc : Array Value → State → Outcome → State → Prop) (mc ms : Nat) (free : Addr → Prop) : Prop :=
  MetFree l y (headSpec ws rm) Pc (fun _ _ _ _ _ => True) (fun a st o t => Qc a st o t ∧ ∃ L, kt_E st t L mc ms ∧ ∀ q ∈ L, free q.base)
theorem kt_of {Qc : Array Value → State → Outcome → State → Prop} {free : Addr → Prop} {mc ms : Nat} {t : State} (h : MQ below Qc args s mc ms free t) : kt_Q below Qc args s mc ms free t := by
  obtain ⟨o, h1, h2, h3, L, ⟨-, h4, h5⟩, h6⟩ := h
  exact ⟨o, h1, h2, h3, L, ⟨h4, h5⟩, h6⟩
theorem kt_W {Q' : State → Prop} {g : JFrame} (h : ∀ t, Q t → Q' t) (k : W p l e R s m args below meth c H locs cells slots Q g) : W p l e R s m args below meth c H locs cells slots Q' g := by
  intro T hT X
  obtain ⟨t, a, b⟩ := k T hT X
  exact ⟨t, a, h t b⟩
theorem kt_ofW {y : MethodName} {ws ws' : List Cond} {rm : Room} {Pc : Array Value → State → Prop} {Qc : Array Value → State → Outcome → State → Prop} {mc ms : Nat} {free : Addr → Prop} {cc : ByteArray} {maxL : Nat} {ret : Option FieldType}
    (hy : plainName y.cls = true) (hw : ws = Cond.code y cc maxL ret :: ws')
    (body : ∀ p e s m args below meth c s₁, BodyLoose p l y (headSpec ws rm) cc maxL ret e s m args below meth c s₁ → c.maxLocals = maxL → Pc args s →
      W p l e (headSpec ws rm).room s m args below meth c s.heap [] 0 0 (kt_Q below Qc args s mc ms free) (entryFrame m args maxL)) : MetT l y ws rm Pc Qc mc ms free := by
  refine MetFree.of_bodyS (code := cc) (maxLocals := maxL) (ret := ret) hy ?_ ?_
  · intro args s m h hn
    obtain ⟨meth, c, h1, h2, h3, h4, h5, h6, -, -⟩ := Cond.code_spec hn (atoms_spec (ws := ws) h _ (by rw [hw]; exact List.mem_cons_self))
    exact ⟨meth, c, h1, h2, h3, h4, h5, h6⟩
  · intro p e s m args below meth c s₁ B hml hP _
    have hh0 : s₁.heap = s.heap := by rw [B.state]; rfl
    obtain ⟨t, a1, o, b1, b2, b3⟩ := body p e s m args below meth c s₁ B hml hP s₁ hh0 (Stand.of_body B)
    exact ⟨t, o, a1, b1, b2, b3⟩
/-- the call itself, of a method that answers or throws -/
theorem kt_back {ws : List Cond} {rm : Room} {Pc : Array Value → State → Prop} {Qc : Array Value → State → Outcome → State → Prop} {mc ms : Nat} {free : Addr → Prop} {bytes : ByteArray} {maxL : Nat} {ret : Option FieldType} {y : MethodName} {T : State}
    (X : Stand p l e R s m args below meth c T locs cells slots) (hM : MetT l y ws rm Pc Qc mc ms free)
    (hrc : rm.cells = mc) (hrs : rm.slots = ms) (hframes : rm.frames + 1 ≤ R.frames) (hlocals : 8 + (maxL + 11) + rm.locals ≤ R.locals)
    (hws : ∀ w ∈ ws, ∀ (a' : Array Value) (U : State), s.WarmedH U.vm → w.before a' U = true) (hcode : Cond.code y bytes maxL ret ∈ ws) (hini : (Cond.initialized y.cls).before args s = true)
    (hf : cells + mc ≤ R.cells ∧ slots + ms ≤ R.slots)
    {g : JFrame} (hg : g.method = m) (hsize : g.locals.size = c.maxLocals) {ig : Instr} {len : Nat} (hdg : decode c.code g.pc = .ok (ig, len)) (hW : 2 * g.monitorRoom + (g.stack.map fun v => v.category).sum ≤ 8)
    {mk : MethodId} (hn : T.methodNamed? y = some mk) {a : Array Value} (hP : Pc a (T.calling g mk a)) :
    ∃ (o : Outcome) (t T' : State) (L : List Loc), Stand p l e R s m args below meth c T' (locs ++ L) (cells + mc) (slots + ms) ∧ (∀ q ∈ L, free q.base) ∧ T'.heap = t.heap ∧ T'.vm = t.vm ∧ Qc a (T.calling g mk a) o t ∧
      (∀ v, o = .returned v → Steps p.tables e below (doInvoke e (T.setTop g) [] mk a).1 (T'.setTop { g with pc := g.pc + len, stack := v.toList ++ g.stack })) ∧
      (∀ x, o = .threw x → Steps p.tables e below (doInvoke e (T.setTop g) [] mk a).1 ((T'.setTop g).pushFrame (.throwing x))) := by
  have hpre : (headSpec ws rm).pre.before a T = true := atoms_intro fun w hw => hws w hw _ _ X.warmed
  have h2 : (Cond.code y bytes maxL ret).before a T = true := hws _ hcode _ _ X.warmed
  have h3 : (Cond.initialized y.cls).before a T = true := word_at X.warmed (Or.inl (by first | rfl | simp [Cond.onTables, Cond.keeps, Cond.steady])) hini
  obtain ⟨methY, cY, hmY, hcY, -, hlY, -⟩ := Cond.code_spec hn h2
  obtain ⟨kY, hkY, -⟩ := className_of_methodNamed hn
  have hinitY : kY.init = .initialized := Cond.initialized_spec (findClass_of_methodNamed hn) hkY h3
  have h : At T g.method c below := by rw [hg]; exact X.here
  have happ : (headSpec ws rm).appliesLoose y e.platform (T.calling g mk a) = true :=
    Spec.appliesLoose_calling (g := g) h hdg hn hkY hinitY
      (X.room_calling (g := g) (R' := (headSpec ws rm).room) hsize hmY hcY hframes (by rw [hlY]; show _ + (maxL + 11) + rm.locals ≤ _; omega) (by show cells + rm.cells ≤ _; rw [hrc]; exact hf.1) (by show slots + rm.slots ≤ _; rw [hrs]; exact hf.2)) hpre
  have hfr : (T.setTop g).frames = .java g :: below := by rw [State.frames_setTop' g h.top, X.tail]
  obtain ⟨o, t, hsteps, -, hend, hq0⟩ := Steps.callFree hM p X.admits X.cas X.clock (acts := []) (mid := [.java g]) (below := below) (by rw [hfr]; rfl) happ hP trivial
  obtain ⟨hq, L, ⟨hWt, hst⟩, hL⟩ := hq0
  rw [hfr] at hend
  cases o with
  | returned v =>
    obtain ⟨T', X', hW', hs', et⟩ := X.outOf hg hdg hend hWt hst
    refine ⟨.returned v, t, T', L, X', hL, ?_, ?_, hq, fun v' hv => ?_, fun x hx => ?_⟩
    · rw [et]; simp [State.setTop, State.modifyTopJava]
    · rw [et]; simp [State.setTop, State.modifyTopJava]
    · cases hv; rw [← et]; exact hsteps
    · cases hx
  | threw x =>
    obtain ⟨T', X', hW', hs', et⟩ := X.outOfThrown hg hend hWt hst
    refine ⟨.threw x, t, T', L, X', hL, ?_, ?_, hq, fun v' hv => ?_, fun x' hx => ?_⟩
    · rw [et]; exact (Stand.throwing_heap T' g x).symm
    · rw [et]; exact (Stand.throwing_vm T' g x).symm
    · cases hv
    · cases hx; rw [← et]; exact hsteps
/-- what comes back of a call that answers or throws -/
def kt_Run (p : Program) (l : Launch) (e : Env) (R : Room) (s : State) (m : MethodId) (args : Array Value) (below : List Frame) (meth : Method) (c : Code) (H : Heap) (locs : List Loc) (cells slots mc ms : Nat) (g : JFrame) (rest : List Value) (Qa : State → Outcome → State → Prop) (free : Addr → Prop) : Prop :=
  ∀ T : State, T.heap = H → Stand p l e R s m args below meth c T locs cells slots → ∃ (o : Outcome) (st₀ t T' : State) (L : List Loc), st₀.heap = H ∧ s.WarmedH st₀.vm ∧ Stand p l e R s m args below meth c T' (locs ++ L) (cells + mc) (slots + ms) ∧ (∀ q ∈ L, free q.base) ∧ T'.heap = t.heap ∧ T'.vm = t.vm ∧ Qa st₀ o t ∧
    (∀ v, o = .returned v → Goes p e below T g T' { g with pc := g.pc + 3, stack := v.toList ++ rest }) ∧ (∀ x, o = .threw x → Steps p.tables e below (T.setTop g) ((T'.setTop { g with stack := rest }).pushFrame (.throwing x)))
theorem kt_runV {y : MethodName} {bytes cc : ByteArray} {maxL nL mc ms n index : Nat} {ret : Option FieldType} {ws : List Cond} {rm : Room} {Pc : Array Value → State → Prop} {Qc : Array Value → State → Outcome → State → Prop} {free : Addr → Prop} {Ts : List Cond} {own C : String} {b : Addr} {As rest : List Value} {g : JFrame}
    (S : CallFix p m c cc nL s args Ts own) (hM : MetT l y ws rm Pc Qc mc ms free) (cw : CallW R s args own C index y bytes maxL ret ws rm mc ms n) (hp : PreV s H C b Pc As)
    (hg : g.method = m) (hn : As.length = n) (hsize : g.locals.size = nL) (hstack : g.stack = As.reverse ++ .ref b :: rest) (hW : 2 * g.monitorRoom + (rest.map fun v => v.category).sum ≤ 8) (hdg : decode cc g.pc = .ok (.invokevirtual index, 3)) (hf : cells + mc ≤ R.cells ∧ slots + ms ≤ R.slots) :
    kt_Run p l e R s m args below meth c H locs cells slots mc ms g rest (Qc (Value.ref b :: As).toArray) (free) := by
  obtain ⟨⟨hrc, hrs, hfr, hlo, hws, hcw, hcode, hini, hy, hlen, hl⟩, hin, hse⟩ := cw
  obtain ⟨hx, hb, hml, ho, -⟩ := S
  obtain ⟨hbl, ⟨cellB, hcB, hoB, hclB⟩, hPc⟩ := hp
  intro T hT X
  obtain ⟨mk, methM, hnamed, hmethM, hstM, habM⟩ := Cond.instanceMethod_spec hin
  obtain ⟨methM', cM, hmethM', -, -, -, -, -, -, hsigM⟩ := Cond.code_spec hnamed hcode
  cases hmethM.symm.trans hmethM'
  obtain ⟨c2, r2, m2, q1, q2, q3, q4, kP, hkP, hkPi⟩ := Cond.selects_spec hse
  cases hclB.symm.trans q1
  cases (State.methodFound?_of_named hnamed hy).symm.trans q2
  cases hnamed.symm.trans q3
  have hselP : selectMethod e.platform s.vm cellB.cls mk = .method mk := by rw [Launch.admits_selectMethod X.admits]; exact q4
  obtain ⟨vm₁, X₁, hstep₁⟩ := X.invokevirtual hx ho hl hnamed hmethM hstM hkP hkPi hy (a := b) (cell := cellB) (by rw [hT]; exact hcB)
    (fun z h => by rw [h] at hoB; cases hoB) hselP hmethM habM hkP hkPi (g := g) hg (argsL := As) (rest := rest) (hn.trans (hlen _ hsigM)) hstack (by rw [hb]; exact hdg)
  obtain ⟨o, t, T', L, X', hL, e1, e2, hq, hret, hthr⟩ := kt_back X₁ hM hrc hrs hfr hlo hws hcw hini hf (g := { g with stack := rest }) hg (hsize.trans hml.symm) (ig := .invokevirtual index) (len := 3) (by rw [hb]; exact hdg) hW (X₁.named hnamed) (a := (Value.ref b :: As).toArray)
    (hbl _ _ _ _ (hPc (T.setVm vm₁) hT X₁.warmed))
  refine ⟨o, (T.setVm vm₁).calling { g with stack := rest } mk (Value.ref b :: As).toArray, t, T', L, hT, X₁.warmed, X', hL, e1, e2, hq, fun v hv => ?_, fun x hx' => ?_⟩
  · intro target h
    exact hstep₁ _ fun acts => by rw [doInvoke_state]; exact (hret v hv).trans h
  · exact hstep₁ _ fun acts => by rw [doInvoke_state]; exact hthr x hx'
end KTA
/-! the exception: how it stands in the heap, and what a throw leaves as it was -/
def kt_X (xN : String) (st : State) (x : Addr) (t : State) : Prop :=
  st.heap.size ≤ t.heap.size ∧ (∀ q : Nat, q < st.heap.size → t.heap[q]? = st.heap[q]?) ∧ ∃ ce : Cell, t.heap[x]? = some ce ∧ ce.vm = .none ∧ st.vm.findClass xN = some ce.cls
/-- an end by an answer, or by a throw that changes nothing -/
def kt_Or (xN : String) (Qr : Array Value → State → Outcome → State → Prop) (thr : Prop) : Array Value → State → Outcome → State → Prop := fun a st oc t =>
  Qr a st oc t ∨ ∃ x, oc = .threw x ∧ thr ∧ kt_X xN st x t
/-- an answer that changes nothing -/
def kt_R (post : Option Value → Prop) : Array Value → State → Outcome → State → Prop := fun _ st oc t => ∃ v, oc = .returned v ∧ post v ∧ t.heap = st.heap
section KTB
variable {p : Program} {l : Launch} {e : Env} {R : Room} {s : State} {m : MethodId} {args : Array Value} {below : List Frame} {meth : Method} {c : Code} {H : Heap} {locs : List Loc} {cells slots : Nat} {Q : State → Prop}
theorem kt_same {t : State} {k n : Nat} (h : s.sameButNew ({ t with vm := s.vm } : State) [] k n) : s.heap.size ≤ t.heap.size ∧ ∀ q : Nat, q < s.heap.size → t.heap[q]? = s.heap[q]? := by
  obtain ⟨-, h1, -, -, -, h6⟩ := h
  refine ⟨h1, fun q hq => ?_⟩
  have hc : s.heap[q]? = some s.heap[q] := Array.getElem?_eq_getElem hq
  obtain ⟨c', g1, g2, g3, g4⟩ := h6 q _ hc
  have e1 : c'.slots = (s.heap[q]).slots := by
    apply Array.ext_getElem?
    intro i
    exact g4 i (by simp)
  have e2 : c' = s.heap[q] := by rw [g2, e1]
  rw [hc, ← e2]
  exact g1
/-- 'throw new X("text")', where nothing has been written yet -/
theorem kt_throw {cc : ByteArray} {own xN tx : String} {up : List String} {pc ia ib ic q : Nat} {ls : Array Slot} {Qc : Array Value → State → Outcome → State → Prop} {free : Addr → Prop}
    (hx : p.tables.exec = Jvm.exec) (htr : e.platform.stackTraces = false) (hb : c.code = cc) (hml : ls.size = c.maxLocals) (hown : s.vm.findClass own = some m.cls) (hne : c.exceptionTable.isEmpty = true) (hlocks : meth.locks = false)
    (hfit : Bundle.fit xN = true) (hup : ∀ n ∈ up, Bundle.fit n = true) (hat : ∀ w ∈ Bundle.ownAtoms own ic xN up, w.before args s = true)
    (hcl : (Cond.classLink own ia xN).before args s = true) (hins : (Cond.instantiable xN 6).before args s = true) (hini : (Cond.initialized xN).before args s = true) (hZ : vk_R own ib tx q s)
    (hH : s.heap.size ≤ H.size) (d0 : decode cc pc = .ok (.new ia, 3)) (d3 : decode cc (pc + 3) = .ok (.dup, 1)) (d4 : decode cc (pc + 4) = .ok (.ldc ib, 2)) (d6 : decode cc (pc + 6) = .ok (.invokespecial ic, 3)) (d9 : decode cc (pc + 9) = .ok (.athrow, 1))
    (hf : up.length + 3 < R.frames) (hlo : 1 + (13 * (up.length + 1) + 42) ≤ R.locals) (hc : cells + 1 ≤ R.cells) (hs : slots + 6 ≤ R.slots)
    (hq : ∀ (t : State) (x : Addr), s.WarmedH t.vm → kt_X xN s x t → Qc args s (.threw x) t) :
    W p l e R s m args below meth c H [] cells slots (kt_Q below Qc args s (cells + 1) (slots + 6) free) (F0 m pc ls []) := by
  refine W.newc hx hb hown hcl hins hini (g := F0 m pc ls []) rfl d0 hc hs ?_
  intro cC kC h1 h2 h3 h4
  refine lv_dup (pc := pc + 3) (ls := ls) (rest := []) hx hb d3 rfl ?_
  refine va_ldcS (pc := pc + 3 + 1) hx hb hown hZ d4 ?_
  intro T hT X
  have hcell : T.heap[H.size]? = some (freshCell cC kC) := by rw [hT]; simp [freshCell]
  obtain ⟨U, hsteps, hrun, hend, hW, hsame, ce, hce, K⟩ := X.ctorThrowS hx htr (own := own) (cls := xN) (names := up) (ic := ic) hown hfit hup hat (fun y hy => by cases hy) h1 h2 hcell hH (msg := .ref q) rfl
    (g := F0 m (pc + 6) ls [.ref q, .ref H.size, .ref H.size]) rfl hml rfl rfl (rest := []) rfl (by rw [hb]; exact d6) (by rw [hb]; exact d9) (covers_of_empty hne _) hf (by show 2 * 0 + _ + _ ≤ _; simp [Value.category]; omega) hlocks
  obtain ⟨k1, k2⟩ := kt_same hsame
  exact ⟨U, hsteps, .threw H.size, hrun, hend, hq U H.size hW ⟨k1, k2, ce, hce, K.vm, K.cls⟩, [], ⟨hW, hsame⟩, fun q hq => by cases hq⟩
/-- a call of a method that throws or changes nothing; the throw goes on to the caller's caller -/
theorem kt_callP {pc : Nat} {ls : Array Slot} {st0 rest : List Value} {a : Array Value} {mc ms mc' ms' : Nat} {xN : String} {post : Option Value → Prop} {thr : Prop} {Qc : Array Value → State → Outcome → State → Prop} {free : Addr → Prop}
    (hr : kt_Run p l e R s m args below meth c s.heap [] cells slots mc ms (F0 m pc ls st0) rest (kt_Or xN (kt_R post) thr a) (fun _ => False)) (hne : c.exceptionTable.isEmpty = true) (hlocks : meth.locks = false) (hc : cells + mc ≤ mc') (hs : slots + ms ≤ ms')
    (hq : ∀ (t : State) (x : Addr), thr → s.WarmedH t.vm → kt_X xN s x t → Qc args s (.threw x) t)
    (kk : ∀ v, post v → W p l e R s m args below meth c s.heap [] (cells + mc) (slots + ms) (kt_Q below Qc args s mc' ms' free) (F0 m (pc + 3) ls (v.toList ++ rest))) :
    W p l e R s m args below meth c s.heap [] cells slots (kt_Q below Qc args s mc' ms' free) (F0 m pc ls st0) := by
  intro T hT X
  obtain ⟨o, st₀, t, T', L, h0, hw0, X', hL, e1, e2, hqq, hret, hthr⟩ := hr T hT X
  have hL0 : L = [] := by
    cases L with
    | nil => rfl
    | cons z zs => exact (hL z List.mem_cons_self).elim
  subst hL0
  rcases hqq with ⟨v, rfl, hp, hh⟩ | ⟨x, rfl, ht, g1, g2, ce, g3, g4, g5⟩
  · obtain ⟨t2, a1, b1⟩ := kk v hp T' (by rw [e1, hh, h0]) X'
    exact ⟨t2, hret v rfl t2 a1, b1⟩
  · obtain ⟨w1, w2, w3, w4, w5⟩ := X'.leaveThrown x (g := F0 m pc ls rest) rfl rfl rfl (covers_of_empty hne _) hlocks
    refine ⟨_, (hthr x rfl).trans w1, .threw x, w2, w3, hq _ x ht w4 ⟨?_, ?_, ce, ?_, g4, ?_⟩, [], ⟨w4, w5.mono hc hs⟩, fun q hq => by cases hq⟩
    · show s.heap.size ≤ T'.heap.size
      rw [e1, ← h0]
      exact g1
    · intro q hq
      show T'.heap[q]? = _
      rw [e1, g2 q (by rw [h0]; exact hq), h0]
    · show T'.heap[x]? = _
      rw [e1]
      exact g3
    · rw [← hw0.alike.findClass]
      exact g5
end KTB
end
section
/-! what a throw reads of the tables and of the heap: carried from state to state -/
def kt_N : String := "java/lang/IllegalArgumentException"
def kt_U : List String := ["java/lang/RuntimeException", "java/lang/Exception"]
/-- old cells are kept -/
def kt_H (s U : State) : Prop := ∀ (q : Nat) (cell : Cell), s.heap[q]? = some cell → U.heap[q]? = some cell
theorem kt_lays {C n d : String} {A A' : Array Value} {s U : State} (hv : s.vm = U.vm) (hh : kt_H s U) (h : (Cond.laysStatic C n d).before A s = true) : (Cond.laysStatic C n d).before A' U = true := by
  have hf : ∀ a b c, U.fieldFound? a b c = s.fieldFound? a b c := fun a b c => by simp only [State.fieldFound?, hv]
  simp only [Cond.before, Cond.holds, Cond.value, hf, ← hv] at h ⊢
  cases h1 : s.vm.findClass C with
  | none => simp [h1] at h
  | some c =>
    cases h2 : s.fieldFound? C n d with
    | none => simp [h1, h2] at h
    | some x =>
      obtain ⟨c', k, i, f⟩ := x
      cases h3 : k.statics with
      | none => simp [h1, h2, h3] at h
      | some a =>
        cases h4 : s.heap[a]? with
        | none => simp [h1, h2, h3, h4] at h
        | some cell => simpa [h1, h2, h3, h4, hh a cell h4] using h
theorem kt_isRef {C n d : String} {A A' : Array Value} {s U : State} (hv : s.vm = U.vm) (hh : kt_H s U) (h : (Cond.isRef (.static C n d)).before A s = true) : (Cond.isRef (.static C n d)).before A' U = true := by
  have hf : ∀ a b c z, U.fieldNamed? a b c z = s.fieldNamed? a b c z := fun a b c z => by simp only [State.fieldNamed?, State.fieldFound?, hv]
  have he : ∀ v, (Term.static C n d).eval A s none [] s = some v → (Term.static C n d).eval A' U none [] U = some v := by
    intro v hv2
    simp only [Term.eval, hf] at hv2 ⊢
    cases h1 : s.fieldNamed? C n d true with
    | none => simp [h1] at hv2
    | some x =>
      obtain ⟨c', k, i⟩ := x
      cases h3 : k.statics with
      | none => simp [h1, h3] at hv2
      | some a =>
        cases h4 : s.heap[a]? with
        | none => simp [h1, h3, h4] at hv2
        | some cell => simpa [h1, h3, h4, hh a cell h4] using hv2
  simp only [Cond.before, Cond.holds, Cond.value] at h ⊢
  cases h1 : (Term.static C n d).eval A s none [] s with
  | none => simp [h1] at h
  | some v => rw [he v h1]; rw [h1] at h; exact h
/-- a throw's own words, at the class's one entry for the exception's constructor -/
def kt_At (U : State) : Prop := ∀ a ∈ Bundle.ownAtoms "GroupDesk" 82 kt_N kt_U, a.before #[] U = true
theorem kt_At.use {s : State} {A : Array Value} (h : kt_At s) : ∀ a ∈ Bundle.ownAtoms "GroupDesk" 82 kt_N kt_U, a.before A s = true := by
  intro a ha
  have h0 := h a ha
  by_cases hT : a.onTables = true
  · exact va_any hT h0
  · simp only [Bundle.ownAtoms, Bundle.throwableAtoms, Bundle.throwableSAtoms, Bundle.chainSAtoms, Bundle.passSAtoms, kt_U, List.cons_append, List.nil_append, List.append_assoc, List.mem_cons, List.not_mem_nil, or_false] at ha
    rcases ha with rfl | rfl | rfl | rfl | rfl | rfl | rfl | rfl | rfl | rfl | rfl | rfl | rfl | rfl | rfl | rfl | rfl | rfl | rfl | rfl | rfl | rfl | rfl | rfl | rfl | rfl | rfl | rfl | rfl | rfl | rfl | rfl | rfl | rfl | rfl | rfl | rfl | rfl | rfl | rfl | rfl | rfl | rfl | rfl | rfl | rfl | rfl | rfl | rfl | rfl | rfl | rfl | rfl | rfl | rfl | rfl | rfl
    all_goals first | exact absurd rfl hT | exact kt_lays rfl (fun _ _ h => h) h0 | exact kt_isRef rfl (fun _ _ h => h) h0
theorem kt_At.to {s U : State} (h : kt_At s) (hW : s.WarmedH U.vm) (hh : kt_H s U) : kt_At U := by
  intro a ha
  have h0 : a.before #[] (s.setVm U.vm) = true := Cond.before_shiftedFace (State.Shifted.of_warmed hW) a (Bundle.ownAtoms_keepsFace a ha) (h a ha)
  have hv : (s.setVm U.vm).vm = U.vm := rfl
  have hh' : kt_H (s.setVm U.vm) U := hh
  by_cases hT : a.onTables = true
  · exact va_tabs hT hv h0
  · simp only [Bundle.ownAtoms, Bundle.throwableAtoms, Bundle.throwableSAtoms, Bundle.chainSAtoms, Bundle.passSAtoms, kt_U, List.cons_append, List.nil_append, List.append_assoc, List.mem_cons, List.not_mem_nil, or_false] at ha
    rcases ha with rfl | rfl | rfl | rfl | rfl | rfl | rfl | rfl | rfl | rfl | rfl | rfl | rfl | rfl | rfl | rfl | rfl | rfl | rfl | rfl | rfl | rfl | rfl | rfl | rfl | rfl | rfl | rfl | rfl | rfl | rfl | rfl | rfl | rfl | rfl | rfl | rfl | rfl | rfl | rfl | rfl | rfl | rfl | rfl | rfl | rfl | rfl | rfl | rfl | rfl | rfl | rfl | rfl | rfl | rfl | rfl | rfl
    all_goals first | exact absurd rfl hT | exact kt_lays hv hh' h0 | exact kt_isRef hv hh' h0
/-- the texts -/
def kt_T : List (Nat × String) := [(141, "there is no such group"), (143, "there is no such member"), (145, "there is no such log"), (80, "the offset is below 0"), (107, "what is not 0 .. 4"), (114, "n is not 0 .. 100000"), (127, "n is not 1 .. 200"), (130, "TIME would be above 1000000")]
def kt_St (U : State) : Prop := ∀ q ∈ kt_T, (Cond.stringRef "GroupDesk" q.1 q.2).before #[] U = true
theorem kt_St.to {s U : State} (h : kt_St s) (hW : s.WarmedH U.vm) : kt_St U := by
  intro q hq
  have h0 := Cond.stringRef_warmed hW (h q hq)
  exact h0
theorem kt_St.use {s : State} {cur : ClassId} (h : kt_St s) (hcur : s.vm.findClass "GroupDesk" = some cur) {k : Nat} {tx : String} (hq : (k, tx) ∈ kt_T) : ∃ q, vk_R "GroupDesk" k tx q s := by
  have h1 := h _ hq
  obtain ⟨k', cf, i, a, -, -, -, -, -, hev⟩ := Cond.stringRef_spec (args := #[]) (first := s) (o := none) (idx := []) hcur h1
  exact ⟨a, vk_R.of h1 hev⟩
def kt_Z (U : State) : Prop := kt_At U ∧ kt_St U
theorem kt_Z.to {s U : State} (h : kt_Z s) (hW : s.WarmedH U.vm) (hh : kt_H s U) : kt_Z U := ⟨h.1.to hW hh, h.2.to hW⟩
def kPreT (D : va_G) (cl : List vw_C) (tys : List (ClassId × FieldType)) (As : List Value) (sz : Nat) (ws : va_W) : Array Value → State → Prop := fun v U => kPre D cl tys As sz ws v U ∧ kt_Z U
theorem kPreT_blind {D : va_G} {cl : List vw_C} {tys : List (ClassId × FieldType)} {As : List Value} {sz : Nat} {ws : va_W} : FrameBlind (kPreT D cl tys As sz ws) := fun a U g mk q => ⟨kPre_blind a U g mk q.1, q.2.to (U := U.calling g mk a) (State.WarmedH.refl U) (fun _ _ h => h)⟩
theorem kPVT {s : State} {D : va_G} {cl : List vw_C} {tys : List (ClassId × FieldType)} {As : List Value} {ws : va_W} {b : Nat} {C : String} {H : Heap} (hr : ∃ cell : Cell, H[b]? = some cell ∧ cell.vm.isStatics = false ∧ s.vm.findClass C = some cell.cls) (hP : va_P D cl ws H) (hK : va_K D cl tys s) (hZ : kt_Z s) (hh : ∀ (q : Nat) (cell : Cell), s.heap[q]? = some cell → H[q]? = some cell) : PreV s H C b (kPreT D cl tys (.ref b :: As) H.size ws) As :=
  ⟨kPreT_blind, hr, fun U hU hW => ⟨⟨rfl, by rw [hU], by rw [hU]; exact hP, va_K.moved hW.alike hK⟩, hZ.to hW (fun q cell h => by rw [hU]; exact hh q cell h)⟩⟩
end
section
/-! the class's world: the desk, its array of groups, its notebook; of each group the object, what was heard, the offsets -/
/-- generation, state, members, joined, limit, heard, offsets -/
abbrev kGV : Type := Int32 × Int32 × Int32 × Int32 × Int32 × (Nat → Int32) × (Nat → Int64)
/-- logs, time, left, written, groups -/
abbrev kDV : Type := Int32 × Int32 × Int32 × Int32 × (Nat → kGV)
abbrev kty (cI cJ cR : ClassId) : List (ClassId × FieldType) := [(cI, .int), (cJ, .long), (cR, .object "GroupDesk$Group")]
def kw_f (h o : Nat) (g : kGV) : List Value := [.int g.1, .int g.2.1, .int g.2.2.1, .int g.2.2.2.1, .int g.2.2.2.2.1, .ref h, .ref o]
def kw_a (ga ha oa : Nat → Nat) (q : Nat) : Nat := if q % 3 = 0 then ga (q / 3) else if q % 3 = 1 then ha (q / 3) else oa (q / 3)
def kw_e (cI cJ : ClassId) (ha oa : Nat → Nat) (G : Nat → kGV) (q : Nat) : va_E :=
  if q % 3 = 0 then .inr (2, kw_f (ha (q / 3)) (oa (q / 3)) (G (q / 3))) else if q % 3 = 1 then .inl (cI, 8, .inl (G (q / 3)).2.2.2.2.2.1) else .inl (cJ, 8, .inr (.inl (G (q / 3)).2.2.2.2.2.2))
def kw_n (cI cJ : ClassId) (ga ha oa : Nat → Nat) (n : Nat) (G : Nat → kGV) : va_W := (List.range (3 * n)).map (fun q => (kw_a ga ha oa q, kw_e cI cJ ha oa G q))
def kw (cI cJ cR : ClassId) (d ar nb : Nat) (ga ha oa : Nat → Nat) (lg tm lf wr : Int32) (G : Nat → kGV) : va_W :=
  (d, .inr (0, [.int lg, .ref ar, .ref nb, .int tm])) :: (ar, .inl (cR, 8, .inr (.inr (.inr (.inr (fun q => some (ga q))))))) :: (nb, .inr (1, [.int lf, .int wr])) :: kw_n cI cJ ga ha oa 8 G
abbrev kwv (cI cJ cR : ClassId) (d ar nb : Nat) (ga ha oa : Nat → Nat) (v : kDV) : va_W := kw cI cJ cR d ar nb ga ha oa v.1 v.2.1 v.2.2.1 v.2.2.2.1 v.2.2.2.2
def kad (d ar nb : Nat) (ga ha oa : Nat → Nat) : List Nat := d :: ar :: nb :: (List.range 24).map (kw_a ga ha oa)
section KWA
variable {cI cJ cR : ClassId} {d ar nb : Nat} {ga ha oa : Nat → Nat} {lg tm lf wr : Int32} {G : Nat → kGV} {j : Nat}
variable {x0 x1 x2 x3 x4 y0 y1 y2 y3 y4 : Int32} {x5 y5 : Nat → Int32} {x6 y6 : Nat → Int64}
theorem kw_ad : (kw cI cJ cR d ar nb ga ha oa lg tm lf wr G).map Prod.fst = kad d ar nb ga ha oa := by
  simp [kw, kad, kw_n, List.map_map, Function.comp_def]
theorem kw_D {A : Nat → Prop} (hnd : (kad d ar nb ga ha oa).Nodup) (hAL : ∀ q ∈ kad d ar nb ga ha oa, A q) : va_D A (kw cI cJ cR d ar nb ga ha oa lg tm lf wr G) :=
  kl_D (by rw [kw_ad]; exact hnd) (by rw [kw_ad]; exact hAL)
theorem kw_gG (hj : j < 8) : (kw cI cJ cR d ar nb ga ha oa lg tm lf wr (va_up G j (x0, x1, x2, x3, x4, x5, x6)))[3 * j + 3]? = some (ga j, .inr (2, [.int x0, .int x1, .int x2, .int x3, .int x4, .ref (ha j), .ref (oa j)])) := by
  show (kw_n cI cJ ga ha oa 8 _)[3 * j]? = _
  rw [kw_n, kl_get (by omega)]
  have h1 : 3 * j % 3 = 0 := by omega
  have h2 : 3 * j / 3 = j := by omega
  simp [kw_a, kw_e, kw_f, h1, h2, va_up_self]
theorem kw_gH (hj : j < 8) : (kw cI cJ cR d ar nb ga ha oa lg tm lf wr (va_up G j (x0, x1, x2, x3, x4, x5, x6)))[3 * j + 4]? = some (ha j, .inl (cI, 8, .inl x5)) := by
  show (kw_n cI cJ ga ha oa 8 _)[3 * j + 1]? = _
  rw [kw_n, kl_get (by omega)]
  have h1 : (3 * j + 1) % 3 = 1 := by omega
  have h2 : (3 * j + 1) / 3 = j := by omega
  simp [kw_a, kw_e, h1, h2, va_up_self]
theorem kw_gO (hj : j < 8) : (kw cI cJ cR d ar nb ga ha oa lg tm lf wr (va_up G j (x0, x1, x2, x3, x4, x5, x6)))[3 * j + 5]? = some (oa j, .inl (cJ, 8, .inr (.inl x6))) := by
  show (kw_n cI cJ ga ha oa 8 _)[3 * j + 2]? = _
  rw [kw_n, kl_get (by omega)]
  have h1 : (3 * j + 2) % 3 = 2 := by omega
  have h2 : (3 * j + 2) / 3 = j := by omega
  simp [kw_a, kw_e, h1, h2, va_up_self]
theorem kw_sG (hj : j < 8) : (kw cI cJ cR d ar nb ga ha oa lg tm lf wr (va_up G j (x0, x1, x2, x3, x4, x5, x6))).set (3 * j + 3) (ga j, .inr (2, [.int y0, .int y1, .int y2, .int y3, .int y4, .ref (ha j), .ref (oa j)])) = kw cI cJ cR d ar nb ga ha oa lg tm lf wr (va_up G j (y0, y1, y2, y3, y4, x5, x6)) := by
  show _ :: _ :: _ :: (kw_n cI cJ ga ha oa 8 _).set (3 * j) _ = _ :: _ :: _ :: kw_n cI cJ ga ha oa 8 _
  congr 3
  refine kl_set (by omega) ?_ (fun q hq hne => ?_)
  · have h1 : 3 * j % 3 = 0 := by omega
    have h2 : 3 * j / 3 = j := by omega
    simp [kw_a, kw_e, kw_f, h1, h2, va_up_self]
  · by_cases h1 : q / 3 = j
    · have h2 : ¬ q % 3 = 0 := by omega
      simp [kw_e, h1, h2, va_up_self]
    · simp [kw_e, va_up_ne _ _ h1]
theorem kw_sH (hj : j < 8) : (kw cI cJ cR d ar nb ga ha oa lg tm lf wr (va_up G j (x0, x1, x2, x3, x4, x5, x6))).set (3 * j + 4) (ha j, .inl (cI, 8, .inl y5)) = kw cI cJ cR d ar nb ga ha oa lg tm lf wr (va_up G j (x0, x1, x2, x3, x4, y5, x6)) := by
  show _ :: _ :: _ :: (kw_n cI cJ ga ha oa 8 _).set (3 * j + 1) _ = _ :: _ :: _ :: kw_n cI cJ ga ha oa 8 _
  congr 3
  refine kl_set (by omega) ?_ (fun q hq hne => ?_)
  · have h1 : (3 * j + 1) % 3 = 1 := by omega
    have h2 : (3 * j + 1) / 3 = j := by omega
    simp [kw_a, kw_e, h1, h2, va_up_self]
  · by_cases h1 : q / 3 = j
    · have h2 : ¬ q % 3 = 1 := by omega
      simp [kw_e, kw_f, h1, h2, va_up_self]
    · simp [kw_e, va_up_ne _ _ h1]
theorem kw_sO (hj : j < 8) : (kw cI cJ cR d ar nb ga ha oa lg tm lf wr (va_up G j (x0, x1, x2, x3, x4, x5, x6))).set (3 * j + 5) (oa j, .inl (cJ, 8, .inr (.inl y6))) = kw cI cJ cR d ar nb ga ha oa lg tm lf wr (va_up G j (x0, x1, x2, x3, x4, x5, y6)) := by
  show _ :: _ :: _ :: (kw_n cI cJ ga ha oa 8 _).set (3 * j + 2) _ = _ :: _ :: _ :: kw_n cI cJ ga ha oa 8 _
  congr 3
  refine kl_set (by omega) ?_ (fun q hq hne => ?_)
  · have h1 : (3 * j + 2) % 3 = 2 := by omega
    have h2 : (3 * j + 2) / 3 = j := by omega
    simp [kw_a, kw_e, h1, h2, va_up_self]
  · by_cases h1 : q / 3 = j
    · have h2 : q % 3 = 0 ∨ q % 3 = 1 := by omega
      rcases h2 with h2 | h2 <;> simp [kw_e, kw_f, h1, h2, va_up_self]
    · simp [kw_e, va_up_ne _ _ h1]
theorem kv_at (G : Nat → kGV) (j : Nat) : va_up G j (G j) = G := by
  funext q
  by_cases h : q = j
  · subst h; simp [va_up]
  · simp [va_up, h]
theorem kw_inH (hj : j < 8) : ∀ q ∈ [ha j], q ∈ kad d ar nb ga ha oa := by
  intro q hq
  rw [List.mem_singleton.mp hq]
  refine List.mem_cons_of_mem _ (List.mem_cons_of_mem _ (List.mem_cons_of_mem _ (List.mem_map.mpr ⟨3 * j + 1, List.mem_range.mpr (by omega), ?_⟩)))
  have h1 : (3 * j + 1) % 3 = 1 := by omega
  have h2 : (3 * j + 1) / 3 = j := by omega
  simp [kw_a, h1, h2]
theorem kw_inO (hj : j < 8) : ∀ q ∈ [oa j], q ∈ kad d ar nb ga ha oa := by
  intro q hq
  rw [List.mem_singleton.mp hq]
  refine List.mem_cons_of_mem _ (List.mem_cons_of_mem _ (List.mem_cons_of_mem _ (List.mem_map.mpr ⟨3 * j + 2, List.mem_range.mpr (by omega), ?_⟩)))
  have h1 : (3 * j + 2) % 3 = 2 := by omega
  have h2 : (3 * j + 2) / 3 = j := by omega
  simp [kw_a, h1, h2]
end KWA
/-! what the class does, as functions of numbers -/
def kg_has (x2 m : Int32) : Int32 := if x2 &&& (1 <<< (m &&& 31)) = 0 then 0 else 1
def kg_clear : kGV → kGV
  | (x0, _, _, _, x4, x5, x6) => (x0, 0, 0, 0, x4, x5, x6)
def kg_mix (t : Int32) : kGV → kGV
  | (x0, _, x2, _, _, x5, x6) => (x0, 1, x2, 0, t + 20, x5, x6)
def kg_in (m t : Int32) : kGV → kGV
  | (x0, x1, x2, x3, x4, x5, x6) => (x0, x1, x2 ||| (1 <<< (m &&& 31)), x3 ||| (1 <<< (m &&& 31)), x4, upd x5 m.toNatClampNeg t, x6)
def kg_take (m t : Int32) (g : kGV) : kGV := if g.2.1 = 1 then kg_in m t g else kg_in m t (kg_mix t g)
def kg_rid (z : Int32) : kGV → kGV
  | (x0, x1, x2, x3, x4, x5, x6) => (x0, x1, x2 &&& (z ^^^ (-1)), x3 &&& (z ^^^ (-1)), x4, x5, x6)
def kg_out (z t : Int32) (g : kGV) : kGV :=
  if (kg_rid z g).2.2.1 = 0 then kg_clear (kg_rid z g) else if g.2.1 = 2 then kg_mix t (kg_rid z g) else kg_rid z g
def kg_settle (t : Int32) : kGV → kGV
  | (x0, _, _, x3, x4, _, x6) => (x0 + 1, 2, x3, x3, x4, fun _ => t, x6)
def kn_write (lf wr : Int32) : Int32 × Int32 × Int32 := if 1 ≤ lf then (1, lf - 1, wr + 1) else (0, lf, wr)
def kg_go (t lf wr : Int32) (g : kGV) : kGV × Int32 × Int32 :=
  if g.2.2.2.1 = 0 then (kg_clear g, lf, wr) else if (kn_write lf wr).1 = 0 then (g, (kn_write lf wr).2.1, (kn_write lf wr).2.2) else (kg_settle t g, (kn_write lf wr).2.1, (kn_write lf wr).2.2)
def kg_fin (t lf wr : Int32) (g : kGV) : kGV × Int32 × Int32 :=
  if g.2.1 = 1 then (if g.2.2.2.1 = g.2.2.1 then kg_go t lf wr g else if g.2.2.2.2.1 ≤ t then kg_go t lf wr g else (g, lf, wr)) else (g, lf, wr)
def kg_sil (x2 t : Int32) (x5 : Nat → Int32) : Nat → Int32
  | 0 => 0
  | i + 1 => if kg_has x2 (nI i) = 0 then kg_sil x2 t x5 i else if t - x5 i < 30 then kg_sil x2 t x5 i else kg_sil x2 t x5 i ||| (1 <<< (nI i &&& 31))
def kg_drop (t : Int32) (g : kGV) : kGV := if g.2.1 = 2 then (if kg_sil g.2.2.1 t g.2.2.2.2.2.1 8 = 0 then g else kg_out (kg_sil g.2.2.1 t g.2.2.2.2.2.1 8) t g) else g
def kg_lim (t : Int32) (g : kGV) : Int32 := if g.2.1 = 1 then (if g.2.2.2.2.1 - t < 0 then 0 else g.2.2.2.2.1 - t) else 0
/-- Integer.bitCount, as the JDK's bytes do it -/
def k_us (x k : Int32) : Int32 := (x.toUInt32 >>> (k.toUInt32 &&& Int32.toUInt32 31)).toInt32
def k_bc1 (x : Int32) : Int32 := x - (k_us x 1 &&& 1431655765)
def k_bc2 (x : Int32) : Int32 := (x &&& 858993459) + (k_us x 2 &&& 858993459)
def k_bc3 (x : Int32) : Int32 := (x + k_us x 4) &&& 252645135
def k_bc4 (x : Int32) : Int32 := x + k_us x 8
def k_bc5 (x : Int32) : Int32 := x + k_us x 16
def k_bc (x : Int32) : Int32 := k_bc5 (k_bc4 (k_bc3 (k_bc2 (k_bc1 x)))) &&& 63
def kg_gives (q m : Int32) (g : kGV) : Int32 :=
  if g.2.1 = 2 then (if kg_has g.2.2.1 m = 0 then 0 else if k_bc g.2.2.1 = 0 then 0 else if q - q / k_bc g.2.2.1 * k_bc g.2.2.1 = k_bc (g.2.2.1 &&& ((1 <<< (m &&& 31)) - 1)) then 1 else 0) else 0
def kg_ref (m n q : Int32) (g : kGV) : Int32 :=
  if kg_has g.2.2.1 m = 0 then (-8) else if n = g.1 then (if g.2.1 = 2 then (if kg_gives q m g = 0 then (-11) else 0) else (-10)) else (-9)
/-! the calls: the answer, and the desk behind it -/
def kd_join (a b : Int32) : kDV → Int32 × kDV
  | (lg, tm, lf, wr, G) => (if (kg_fin tm lf wr (kg_take b tm (G a.toNatClampNeg))).1.2.1 = 2 then (kg_fin tm lf wr (kg_take b tm (G a.toNatClampNeg))).1.1 else (-1),
      (lg, tm, (kg_fin tm lf wr (kg_take b tm (G a.toNatClampNeg))).2.1, (kg_fin tm lf wr (kg_take b tm (G a.toNatClampNeg))).2.2, va_up G a.toNatClampNeg (kg_fin tm lf wr (kg_take b tm (G a.toNatClampNeg))).1))
def kd_leave (a b : Int32) : kDV → Int32 × kDV
  | (lg, tm, lf, wr, G) => if kg_has (G a.toNatClampNeg).2.2.1 b = 0 then (-8, (lg, tm, lf, wr, G)) else
      (1, (lg, tm, (kg_fin tm lf wr (kg_out (1 <<< (b &&& 31)) tm (G a.toNatClampNeg))).2.1, (kg_fin tm lf wr (kg_out (1 <<< (b &&& 31)) tm (G a.toNatClampNeg))).2.2, va_up G a.toNatClampNeg (kg_fin tm lf wr (kg_out (1 <<< (b &&& 31)) tm (G a.toNatClampNeg))).1))
def kg_hear (b t : Int32) : kGV → kGV
  | (x0, x1, x2, x3, x4, x5, x6) => (x0, x1, x2, x3, x4, upd x5 b.toNatClampNeg t, x6)
def kd_beat (a b n : Int32) : kDV → Int32 × kDV
  | (lg, tm, lf, wr, G) => if kg_has (G a.toNatClampNeg).2.2.1 b = 0 then (-8, (lg, tm, lf, wr, G)) else if n = (G a.toNatClampNeg).1 then
      (if kg_has (G a.toNatClampNeg).2.2.2.1 b = 0 then 1 else 0, (lg, tm, lf, wr, va_up G a.toNatClampNeg (kg_hear b tm (G a.toNatClampNeg)))) else (-9, (lg, tm, lf, wr, G))
def kg_off (q : Int32) (v : Int64) : kGV → kGV
  | (x0, x1, x2, x3, x4, x5, x6) => (x0, x1, x2, x3, x4, x5, vp_updL x6 q.toNatClampNeg v)
def kd_commit (a b n q : Int32) (v : Int64) : kDV → Int32 × kDV
  | (lg, tm, lf, wr, G) => if kg_ref b n q (G a.toNatClampNeg) = 0 then
      (if (kn_write lf wr).1 = 0 then (-2, (lg, tm, (kn_write lf wr).2.1, (kn_write lf wr).2.2, G)) else (0, (lg, tm, (kn_write lf wr).2.1, (kn_write lf wr).2.2, va_up G a.toNatClampNeg (kg_hear b tm (kg_off q v (G a.toNatClampNeg))))))
      else (kg_ref b n q (G a.toNatClampNeg), (lg, tm, lf, wr, G))
def kg_what (t w : Int32) (g : kGV) : Int32 := if w = 0 then g.1 else if w = 1 then g.2.1 else if w = 2 then g.2.2.1 else if w = 3 then g.2.2.2.1 else kg_lim t g
def kg_sh (m : Int32) (g : kGV) : Nat → Int32
  | 0 => 0
  | i + 1 => if kg_gives (nI i) m g = 0 then kg_sh m g i else kg_sh m g i ||| (1 <<< (nI i &&& 31))
def kd_rest (G : Nat → kGV) : Nat → Int32 × (Nat → kGV)
  | 0 => (0, G)
  | i + 1 => ((kd_rest G i).1 + k_bc ((kd_rest G i).2 i).2.2.1, va_up (kd_rest G i).2 i (kg_clear ((kd_rest G i).2 i)))
/-- group by group, of a tick at the time t: left, written, groups -/
def kd_tk (t lf wr : Int32) (G : Nat → kGV) : Nat → Int32 × Int32 × (Nat → kGV)
  | 0 => (lf, wr, G)
  | i + 1 => ((kg_fin t (kd_tk t lf wr G i).1 (kd_tk t lf wr G i).2.1 (kg_drop t ((kd_tk t lf wr G i).2.2 i))).2.1, (kg_fin t (kd_tk t lf wr G i).1 (kd_tk t lf wr G i).2.1 (kg_drop t ((kd_tk t lf wr G i).2.2 i))).2.2,
      va_up (kd_tk t lf wr G i).2.2 i (kg_fin t (kd_tk t lf wr G i).1 (kd_tk t lf wr G i).2.1 (kg_drop t ((kd_tk t lf wr G i).2.2 i))).1)
def kd_tick : kDV → kDV
  | (lg, tm, lf, wr, G) => (lg, tm + 1, (kd_tk (tm + 1) lf wr G 8).1, (kd_tk (tm + 1) lf wr G 8).2.1, (kd_tk (tm + 1) lf wr G 8).2.2)
def kd_ticks (v : kDV) : Nat → kDV
  | 0 => v
  | i + 1 => kd_tick (kd_ticks v i)
end
section
set_option maxHeartbeats 4000000 in
set_option maxRecDepth 100000 in
theorem c_J_bitCount (l : Launch) (x : Int32) : Met l y_JI_bitCount w_JI_bitCount ({ frames := 0, cells := 0, slots := 0, locals := 0 }) (fun v _ => v = [Value.int x].toArray) (vp_Si (fun r => r = k_bc x)) 0 0 (fun _ => False) := by
  refine Met.ofW (cc := b_JI_bitCount) (maxL := 1) (ret := (some .int)) (by decide) rfl ?_
  intro p e s m args below meth c s₁ B hml hv
  obtain rfl := hv
  have hx := B.exec
  have hb := B.bytes
  have hr := B.returns
  have hts := atoms_spec (ws := w_JI_bitCount) B.pre
  have hw := fun (w : Cond) (h : w ∈ kb_B) => hts w (List.mem_cons_of_mem _ h)
  have hown : s.vm.findClass R_JI = some m.cls := findClass_of_methodNamed B.named
  have hlocks := B.notSynchronized
  have hl := lv_entry ([.int x]) (n := 1) (Nat.le_of_ble_eq_true rfl)
  rw [lg_entry_eq]
  generalize (lg_sl ([.int x]) ++ List.replicate (1 - (lg_sl ([.int x])).length) Slot.unset).toArray = ls at hl ⊢
  have hl : lv_has ls 1 [(0, .int x)] := hl
  refine lv_iload_n hx hb d_JI_bitCount_0 rfl (lv_at hl 0 rfl) ?_
  refine lv_iload_n hx hb d_JI_bitCount_1 rfl (lv_at hl 0 rfl) ?_
  refine lv_iconst (v := 1) hx hb d_JI_bitCount_2 (by decide) ?_
  refine lv_iushr hx hb d_JI_bitCount_3 rfl ?_
  refine lv_ldcw (v := 1431655765) hx hb hown (hw _ kb_102) d_JI_bitCount_4 ?_
  refine lv_iand hx hb d_JI_bitCount_7 ?_
  refine lv_isub hx hb d_JI_bitCount_8 ?_
  refine lv_istore_n (lv' := [(0, .int (k_bc1 x))]) hx hb d_JI_bitCount_9 rfl hl (by decide) rfl (fun ls hl => ?_)
  refine lv_iload_n hx hb d_JI_bitCount_10 rfl (lv_at hl 0 rfl) ?_
  refine lv_ldcw (v := 858993459) hx hb hown (hw _ kb_103) d_JI_bitCount_11 ?_
  refine lv_iand hx hb d_JI_bitCount_14 ?_
  refine lv_iload_n hx hb d_JI_bitCount_15 rfl (lv_at hl 0 rfl) ?_
  refine lv_iconst (v := 2) hx hb d_JI_bitCount_16 (by decide) ?_
  refine lv_iushr hx hb d_JI_bitCount_17 rfl ?_
  refine lv_ldcw (v := 858993459) hx hb hown (hw _ kb_103) d_JI_bitCount_18 ?_
  refine lv_iand hx hb d_JI_bitCount_21 ?_
  refine lv_iadd hx hb d_JI_bitCount_22 ?_
  refine lv_istore_n (lv' := [(0, .int (k_bc2 (k_bc1 x)))]) hx hb d_JI_bitCount_23 rfl hl (by decide) rfl (fun ls hl => ?_)
  refine lv_iload_n hx hb d_JI_bitCount_24 rfl (lv_at hl 0 rfl) ?_
  refine lv_iload_n hx hb d_JI_bitCount_25 rfl (lv_at hl 0 rfl) ?_
  refine lv_iconst (v := 4) hx hb d_JI_bitCount_26 (by decide) ?_
  refine lv_iushr hx hb d_JI_bitCount_27 rfl ?_
  refine lv_iadd hx hb d_JI_bitCount_28 ?_
  refine lv_ldcw (v := 252645135) hx hb hown (hw _ kb_104) d_JI_bitCount_29 ?_
  refine lv_iand hx hb d_JI_bitCount_32 ?_
  refine lv_istore_n (lv' := [(0, .int (k_bc3 (k_bc2 (k_bc1 x))))]) hx hb d_JI_bitCount_33 rfl hl (by decide) rfl (fun ls hl => ?_)
  refine lv_iload_n hx hb d_JI_bitCount_34 rfl (lv_at hl 0 rfl) ?_
  refine lv_iload_n hx hb d_JI_bitCount_35 rfl (lv_at hl 0 rfl) ?_
  refine lv_bipush (v := 8) hx hb d_JI_bitCount_36 (by decide) ?_
  refine lv_iushr hx hb d_JI_bitCount_38 rfl ?_
  refine lv_iadd hx hb d_JI_bitCount_39 ?_
  refine lv_istore_n (lv' := [(0, .int (k_bc4 (k_bc3 (k_bc2 (k_bc1 x)))))]) hx hb d_JI_bitCount_40 rfl hl (by decide) rfl (fun ls hl => ?_)
  refine lv_iload_n hx hb d_JI_bitCount_41 rfl (lv_at hl 0 rfl) ?_
  refine lv_iload_n hx hb d_JI_bitCount_42 rfl (lv_at hl 0 rfl) ?_
  refine lv_bipush (v := 16) hx hb d_JI_bitCount_43 (by decide) ?_
  refine lv_iushr hx hb d_JI_bitCount_45 rfl ?_
  refine lv_iadd hx hb d_JI_bitCount_46 ?_
  refine lv_istore_n (lv' := [(0, .int (k_bc5 (k_bc4 (k_bc3 (k_bc2 (k_bc1 x))))))]) hx hb d_JI_bitCount_47 rfl hl (by decide) rfl (fun ls hl => ?_)
  refine lv_iload_n hx hb d_JI_bitCount_48 rfl (lv_at hl 0 rfl) ?_
  refine lv_bipush (v := 63) hx hb d_JI_bitCount_49 (by decide) ?_
  refine lv_iand hx hb d_JI_bitCount_51 ?_
  exact W.iret hx hb hr (fun t ht hW => ⟨_, rfl, rfl, ht⟩) (fun q h => by cases h) d_JI_bitCount_52
set_option maxHeartbeats 4000000 in
set_option maxRecDepth 100000 in
theorem lp_J_fillI {p : Program} {l : Launch} {e : Env} {s : State} {m : MethodId} {args : Array Value} {below : List Frame} {meth : Method} {c : Code} {Q : State → Prop} {D : va_G} {tys : List (ClassId × FieldType)} {t0 : Nat} {cA : ClassId} {x n : Nat} {v : Int32} {A : Nat → Prop} (hx : p.tables.exec = Jvm.exec) (hb : c.code = b_JA_fillI) (hK : va_K D vwCl tys s) (ht : tys[t0]? = some (cA, .int)) (hn : n < 2 ^ 31) (hAL : ∀ q ∈ [x], A q)
    (kk : ∀ (H : Heap) (locs : List Loc) (ls : Array Slot), va_P D vwCl [(x, .inl (cA, n, .inl (fun _ => v)))] H → va_S A s.heap H locs → W p l e (headSpec w_JA_fillI ({ frames := 0, cells := 0, slots := 0, locals := 0 })).room s m args below meth c H locs 0 0 Q (F0 m 20 ls [])) :
    ∀ (k i : Nat) (f : Nat → Int32) (H : Heap) (locs : List Loc) (ls : Array Slot), i + k = n → (∀ q, q < i → f q = v) → va_P D vwCl [(x, .inl (cA, n, .inl f))] H → va_S A s.heap H locs → lv_has ls 4 [(3, .int (nI n)), (2, .int (nI i)), (0, .ref x), (1, .int v)] → W p l e (headSpec w_JA_fillI ({ frames := 0, cells := 0, slots := 0, locals := 0 })).room s m args below meth c H locs 0 0 Q (F0 m 5 ls []) := by
  intro k
  induction k with
  | zero =>
    intro i f H locs ls hi hf hP hS hl
    refine lv_iload_n hx hb d_JA_fillI_5 rfl (lv_at hl 1 rfl) ?_
    refine lv_iload_n hx hb d_JA_fillI_6 rfl (lv_at hl 0 rfl) ?_
    refine lv_icmp_ge (tgt := 20) hx hb d_JA_fillI_7 (by decide) (fun c_1 => ?_) (fun c_1 => ?_)
    · exact kk H locs ls (ka_Pi hP (fun q hq => hf q (by omega))) hS
    · exact absurd (nI_le (by omega) (by omega)) c_1
  | succ k ih =>
    intro i f H locs ls hi hf hP hS hl
    refine lv_iload_n hx hb d_JA_fillI_5 rfl (lv_at hl 1 rfl) ?_
    refine lv_iload_n hx hb d_JA_fillI_6 rfl (lv_at hl 0 rfl) ?_
    refine lv_icmp_ge (tgt := 20) hx hb d_JA_fillI_7 (by decide) (fun c_1 => ?_) (fun c_1 => ?_)
    · exact absurd c_1 (nI_ge (by omega) (by omega))
    · refine lv_aload_n hx hb d_JA_fillI_10 rfl (lv_at hl 2 rfl) ?_
      refine lv_iload_n hx hb d_JA_fillI_11 rfl (lv_at hl 1 rfl) ?_
      refine lv_iload_n hx hb d_JA_fillI_12 rfl (lv_at hl 3 rfl) ?_
      refine va_iast hx hb hK hP (kl_D (by simp) (fun q h => hAL q h)) hS 0 t0 rfl ht (vp_in_nI (by omega) hn) d_JA_fillI_13 (fun H locs hP _ hS => ?_)
      rw [nI_clamp (by omega)] at hP
      refine lv_iinc (v := (nI i) + 1) (lv' := [(2, .int ((nI i) + 1)), (3, .int (nI n)), (0, .ref x), (1, .int v)]) hx hb d_JA_fillI_14 hl (k := 1) rfl rfl (by decide) rfl (fun ls hl => ?_)
      refine lv_goto (tgt := 5) hx hb d_JA_fillI_17 (by decide) ?_
      refine ih (i + 1) (upd f i v) H locs ls (by omega) (fun q hq => ?_) hP hS ?_
      · by_cases hqi : q = i
        · rw [hqi]; exact pk_us
        · rw [pk_un hqi]; exact hf q (by omega)
      · rw [nI_succ]; exact lv_sub hl [1, 0, 2, 3] rfl
set_option maxHeartbeats 4000000 in
set_option maxRecDepth 100000 in
theorem c_J_fillI (l : Launch) {D : va_G} (tys : List (ClassId × FieldType)) (t0 : Nat) {cA : ClassId} (ht : tys[t0]? = some (cA, .int)) (x n : Nat) (f : Nat → Int32) (v : Int32) (hn : n < 2 ^ 31) (sz : Nat) : Met l y_JA_fillI w_JA_fillI ({ frames := 0, cells := 0, slots := 0, locals := 0 }) (kPre D vwCl tys [.ref x, .int v] sz [(x, .inl (cA, n, .inl f))]) (va_Qv (fun _ : Unit => True) (fun _ t => va_P D vwCl [(x, .inl (cA, n, .inl (fun _ => v)))] t.heap) (kA [x] sz)) 0 0 (kA [x] sz) := by
  refine Met.ofW (cc := b_JA_fillI) (maxL := 4) (ret := none) (by decide) rfl ?_
  intro p e s m args below meth c s₁ B hml hv
  obtain ⟨rfl, hsz, hP, hK⟩ := hv
  have hx := B.exec
  have hb := B.bytes
  have hr := B.returns
  have hts := atoms_spec (ws := w_JA_fillI) B.pre
  have hw := fun (w : Cond) (h : w ∈ kb_B) => hts w (List.mem_cons_of_mem _ h)
  have hown : s.vm.findClass R_JA = some m.cls := findClass_of_methodNamed B.named
  have hlocks := B.notSynchronized
  subst hsz
  generalize hAe : kA [x] s.heap.size = A
  have hAL : ∀ q ∈ [x], A q := fun q h => by rw [← hAe]; exact Or.inl h
  have hS : va_S A s.heap s.heap [] := va_S.rf
  have hl := lv_entry ([.ref x, .int v]) (n := 4) (Nat.le_of_ble_eq_true rfl)
  rw [lg_entry_eq]
  generalize (lg_sl ([.ref x, .int v]) ++ List.replicate (4 - (lg_sl ([.ref x, .int v])).length) Slot.unset).toArray = ls at hl ⊢
  have hl : lv_has ls 4 [(0, .ref x), (1, .int v)] := hl
  refine lv_iconst (v := 0) hx hb d_JA_fillI_0 (by decide) ?_
  refine lv_istore_n (lv' := [(2, .int 0), (0, .ref x), (1, .int v)]) hx hb d_JA_fillI_1 rfl hl (by decide) rfl (fun ls hl => ?_)
  refine lv_aload_n hx hb d_JA_fillI_2 rfl (lv_at hl 1 rfl) ?_
  refine va_alen (v := nI n) hx hb hK hP 0 t0 rfl ht rfl d_JA_fillI_3 ?_
  refine lv_istore_n (lv' := [(3, .int (nI n)), (2, .int 0), (0, .ref x), (1, .int v)]) hx hb d_JA_fillI_4 rfl hl (by decide) rfl (fun ls hl => ?_)
  refine lp_J_fillI hx hb hK ht hn hAL (fun H locs ls hP hS => ?_) n 0 f _ _ ls (Nat.zero_add n) (fun q h => absurd h (Nat.not_lt_zero q)) hP hS (lv_sub hl [0, 1, 2, 3] rfl)
  exact W.vret hx hb hr (fun t ht hW => ⟨⟨(), rfl, trivial, by show va_P _ _ _ t.heap; rw [ht]; exact hP⟩, hS.F ht⟩) hS.2.2 d_JA_fillI_20
set_option maxHeartbeats 4000000 in
set_option maxRecDepth 100000 in
theorem lp_J_fillL {p : Program} {l : Launch} {e : Env} {s : State} {m : MethodId} {args : Array Value} {below : List Frame} {meth : Method} {c : Code} {Q : State → Prop} {D : va_G} {tys : List (ClassId × FieldType)} {t0 : Nat} {cA : ClassId} {x n : Nat} {v : Int64} {A : Nat → Prop} (hx : p.tables.exec = Jvm.exec) (hb : c.code = b_JA_fillL) (hK : va_K D vwCl tys s) (ht : tys[t0]? = some (cA, .long)) (hn : n < 2 ^ 31) (hAL : ∀ q ∈ [x], A q)
    (kk : ∀ (H : Heap) (locs : List Loc) (ls : Array Slot), va_P D vwCl [(x, .inl (cA, n, .inr (.inl (fun _ => v))))] H → va_S A s.heap H locs → W p l e (headSpec w_JA_fillL ({ frames := 0, cells := 0, slots := 0, locals := 0 })).room s m args below meth c H locs 0 0 Q (F0 m 22 ls [])) :
    ∀ (k i : Nat) (f : Nat → Int64) (H : Heap) (locs : List Loc) (ls : Array Slot), i + k = n → (∀ q, q < i → f q = v) → va_P D vwCl [(x, .inl (cA, n, .inr (.inl f)))] H → va_S A s.heap H locs → lv_has ls 5 [(4, .int (nI n)), (3, .int (nI i)), (0, .ref x), (1, .long v)] → W p l e (headSpec w_JA_fillL ({ frames := 0, cells := 0, slots := 0, locals := 0 })).room s m args below meth c H locs 0 0 Q (F0 m 6 ls []) := by
  intro k
  induction k with
  | zero =>
    intro i f H locs ls hi hf hP hS hl
    refine lv_iload_n hx hb d_JA_fillL_6 rfl (lv_at hl 1 rfl) ?_
    refine lv_iload hx hb d_JA_fillL_7 (lv_at hl 0 rfl) ?_
    refine lv_icmp_ge (tgt := 22) hx hb d_JA_fillL_9 (by decide) (fun c_1 => ?_) (fun c_1 => ?_)
    · exact kk H locs ls (ka_Pl hP (fun q hq => hf q (by omega))) hS
    · exact absurd (nI_le (by omega) (by omega)) c_1
  | succ k ih =>
    intro i f H locs ls hi hf hP hS hl
    refine lv_iload_n hx hb d_JA_fillL_6 rfl (lv_at hl 1 rfl) ?_
    refine lv_iload hx hb d_JA_fillL_7 (lv_at hl 0 rfl) ?_
    refine lv_icmp_ge (tgt := 22) hx hb d_JA_fillL_9 (by decide) (fun c_1 => ?_) (fun c_1 => ?_)
    · exact absurd c_1 (nI_ge (by omega) (by omega))
    · refine lv_aload_n hx hb d_JA_fillL_12 rfl (lv_at hl 2 rfl) ?_
      refine lv_iload_n hx hb d_JA_fillL_13 rfl (lv_at hl 1 rfl) ?_
      refine lv_lload_n hx hb d_JA_fillL_14 rfl (lv_at hl 3 rfl) ?_
      refine va_last hx hb hK hP (kl_D (by simp) (fun q h => hAL q h)) hS 0 t0 rfl ht (vp_in_nI (by omega) hn) d_JA_fillL_15 (fun H locs hP _ hS => ?_)
      rw [nI_clamp (by omega)] at hP
      refine lv_iinc (v := (nI i) + 1) (lv' := [(3, .int ((nI i) + 1)), (4, .int (nI n)), (0, .ref x), (1, .long v)]) hx hb d_JA_fillL_16 hl (k := 1) rfl rfl (by decide) rfl (fun ls hl => ?_)
      refine lv_goto (tgt := 6) hx hb d_JA_fillL_19 (by decide) ?_
      refine ih (i + 1) (vp_updL f i v) H locs ls (by omega) (fun q hq => ?_) hP hS ?_
      · by_cases hqi : q = i
        · rw [hqi]; exact pk_uLs
        · rw [pk_uLn hqi]; exact hf q (by omega)
      · rw [nI_succ]; exact lv_sub hl [1, 0, 2, 3] rfl
set_option maxHeartbeats 4000000 in
set_option maxRecDepth 100000 in
theorem c_J_fillL (l : Launch) {D : va_G} (tys : List (ClassId × FieldType)) (t0 : Nat) {cA : ClassId} (ht : tys[t0]? = some (cA, .long)) (x n : Nat) (f : Nat → Int64) (v : Int64) (hn : n < 2 ^ 31) (sz : Nat) : Met l y_JA_fillL w_JA_fillL ({ frames := 0, cells := 0, slots := 0, locals := 0 }) (kPre D vwCl tys [.ref x, .long v] sz [(x, .inl (cA, n, .inr (.inl f)))]) (va_Qv (fun _ : Unit => True) (fun _ t => va_P D vwCl [(x, .inl (cA, n, .inr (.inl (fun _ => v))))] t.heap) (kA [x] sz)) 0 0 (kA [x] sz) := by
  refine Met.ofW (cc := b_JA_fillL) (maxL := 5) (ret := none) (by decide) rfl ?_
  intro p e s m args below meth c s₁ B hml hv
  obtain ⟨rfl, hsz, hP, hK⟩ := hv
  have hx := B.exec
  have hb := B.bytes
  have hr := B.returns
  have hts := atoms_spec (ws := w_JA_fillL) B.pre
  have hw := fun (w : Cond) (h : w ∈ kb_B) => hts w (List.mem_cons_of_mem _ h)
  have hown : s.vm.findClass R_JA = some m.cls := findClass_of_methodNamed B.named
  have hlocks := B.notSynchronized
  subst hsz
  generalize hAe : kA [x] s.heap.size = A
  have hAL : ∀ q ∈ [x], A q := fun q h => by rw [← hAe]; exact Or.inl h
  have hS : va_S A s.heap s.heap [] := va_S.rf
  have hl := lv_entry ([.ref x, .long v]) (n := 5) (Nat.le_of_ble_eq_true rfl)
  rw [lg_entry_eq]
  generalize (lg_sl ([.ref x, .long v]) ++ List.replicate (5 - (lg_sl ([.ref x, .long v])).length) Slot.unset).toArray = ls at hl ⊢
  have hl : lv_has ls 5 [(0, .ref x), (1, .long v)] := hl
  refine lv_iconst (v := 0) hx hb d_JA_fillL_0 (by decide) ?_
  refine lv_istore_n (lv' := [(3, .int 0), (0, .ref x), (1, .long v)]) hx hb d_JA_fillL_1 rfl hl (by decide) rfl (fun ls hl => ?_)
  refine lv_aload_n hx hb d_JA_fillL_2 rfl (lv_at hl 1 rfl) ?_
  refine va_alen (v := nI n) hx hb hK hP 0 t0 rfl ht rfl d_JA_fillL_3 ?_
  refine lv_istore (lv' := [(4, .int (nI n)), (3, .int 0), (0, .ref x), (1, .long v)]) hx hb d_JA_fillL_4 hl (by decide) rfl (fun ls hl => ?_)
  refine lp_J_fillL hx hb hK ht hn hAL (fun H locs ls hP hS => ?_) n 0 f _ _ ls (Nat.zero_add n) (fun q h => absurd h (Nat.not_lt_zero q)) hP hS (lv_sub hl [0, 1, 2, 3] rfl)
  exact W.vret hx hb hr (fun t ht hW => ⟨⟨(), rfl, trivial, by show va_P _ _ _ t.heap; rw [ht]; exact hP⟩, hS.F ht⟩) hS.2.2 d_JA_fillL_22
end
section
set_option maxHeartbeats 4000000 in
set_option maxRecDepth 100000 in
theorem c_N_write (l : Launch) {dC : Nat → ClassId} {dI : Nat → Nat → Nat} {cI cJ cR : ClassId} {d ar nb : Nat} {ga ha oa : Nat → Nat} (hnd : (kad d ar nb ga ha oa).Nodup) (lg tm lf wr : Int32) (G : Nat → kGV) (sz : Nat) : Met l y_N_write w_N_write ({ frames := 0, cells := 0, slots := 0, locals := 0 }) (kPre (dC, dI) vwCl (kty cI cJ cR) [.ref nb] sz (kw cI cJ cR d ar nb ga ha oa lg tm lf wr G)) (va_Qi (fun (r : Int32) (u : kDV) => r = (kn_write lf wr).1 ∧ u = (lg, tm, (kn_write lf wr).2.1, (kn_write lf wr).2.2, G)) (fun u t => va_P (dC, dI) vwCl (kwv cI cJ cR d ar nb ga ha oa u) t.heap) (kA (kad d ar nb ga ha oa) sz)) 0 0 (kA (kad d ar nb ga ha oa) sz) := by
  refine Met.ofW (cc := b_N_write) (maxL := 1) (ret := (some .boolean)) (by decide) rfl ?_
  intro p e s m args below meth c s₁ B hml hv
  obtain ⟨rfl, hsz, hP, hK⟩ := hv
  have hx := B.exec
  have hb := B.bytes
  have hr := B.returns
  have hts := atoms_spec (ws := w_N_write) B.pre
  have hw := fun (w : Cond) (h : w ∈ kb_B) => hts w (List.mem_cons_of_mem _ h)
  have hown : s.vm.findClass R_N = some m.cls := findClass_of_methodNamed B.named
  have hlocks := B.notSynchronized
  subst hsz
  generalize hAe : kA (kad d ar nb ga ha oa) s.heap.size = A
  have hA : ∀ q : Nat, s.heap.size ≤ q → A q := fun q h => by rw [← hAe]; exact Or.inr h
  have hAL : ∀ q ∈ (kad d ar nb ga ha oa), A q := fun q h => by rw [← hAe]; exact Or.inl h
  have hS : va_S A s.heap s.heap [] := va_S.rf
  have hl := lv_entry ([.ref nb]) (n := 1) (Nat.le_of_ble_eq_true rfl)
  rw [lg_entry_eq]
  generalize (lg_sl ([.ref nb]) ++ List.replicate (1 - (lg_sl ([.ref nb])).length) Slot.unset).toArray = ls at hl ⊢
  have hl : lv_has ls 1 [(0, .ref nb)] := hl
  refine lv_aload_n hx hb d_N_write_0 rfl (lv_at hl 0 rfl) ?_
  refine va_get (D := (dC, dI)) (ci := 1) (v := .int lf) (C := R_N) (T := F_N) (N := 2) hx hb hw i_N hown hK hP 2 rfl rfl 0 (by decide) (hw _ kb_32) (fun _ h9 => h9) rfl d_N_write_1 ?_
  refine lv_iconst (v := 1) hx hb d_N_write_4 (by decide) ?_
  refine lv_icmp_ge (tgt := 10) hx hb d_N_write_5 (by decide) (fun c_1 => ?_) (fun c_1 => ?_)
  · refine lv_aload_n hx hb d_N_write_10 rfl (lv_at hl 0 rfl) ?_
    refine lv_dup hx hb d_N_write_11 rfl ?_
    refine va_get (D := (dC, dI)) (ci := 1) (v := .int lf) (C := R_N) (T := F_N) (N := 2) hx hb hw i_N hown hK hP 2 rfl rfl 0 (by decide) (hw _ kb_32) (fun _ h9 => h9) rfl d_N_write_12 ?_
    refine lv_iconst (v := 1) hx hb d_N_write_15 (by decide) ?_
    refine lv_isub hx hb d_N_write_16 ?_
    refine va_put (D := (dC, dI)) (ci := 1) (v := .int (lf - (1 : Int32))) (ty := .int) (C := R_N) (T := F_N) (N := 2) hx hb hw i_N t_N t_N_ok n_N hown hK hP (kw_D hnd hAL) hS 2 rfl rfl 0 (by decide) (hw _ kb_32) (fun _ h9 => h9) rfl (by decide +kernel) rfl rfl (Nat.le_of_ble_eq_true rfl) d_N_write_17 (fun H locs hP _ hS => ?_)
    have hP : va_P (dC, dI) vwCl (kw cI cJ cR d ar nb ga ha oa lg tm (lf - (1 : Int32)) wr G) _ := hP
    refine lv_aload_n hx hb d_N_write_20 rfl (lv_at hl 0 rfl) ?_
    refine lv_dup hx hb d_N_write_21 rfl ?_
    refine va_get (D := (dC, dI)) (ci := 1) (v := .int wr) (C := R_N) (T := F_N) (N := 2) hx hb hw i_N hown hK hP 2 rfl rfl 1 (by decide) (hw _ kb_34) (fun _ h9 => h9) rfl d_N_write_22 ?_
    refine lv_iconst (v := 1) hx hb d_N_write_25 (by decide) ?_
    refine lv_iadd hx hb d_N_write_26 ?_
    refine va_put (D := (dC, dI)) (ci := 1) (v := .int (wr + (1 : Int32))) (ty := .int) (C := R_N) (T := F_N) (N := 2) hx hb hw i_N t_N t_N_ok n_N hown hK hP (kw_D hnd hAL) hS 2 rfl rfl 1 (by decide) (hw _ kb_34) (fun _ h9 => h9) rfl (by decide +kernel) rfl rfl (Nat.le_of_ble_eq_true rfl) d_N_write_27 (fun H locs hP _ hS => ?_)
    have hP : va_P (dC, dI) vwCl (kw cI cJ cR d ar nb ga ha oa lg tm (lf - (1 : Int32)) (wr + (1 : Int32)) G) _ := hP
    refine lv_iconst (v := 1) hx hb d_N_write_30 (by decide) ?_
    exact W.zret (v := 1) hx hb hr (by decide) (fun t ht hW => ⟨⟨_, (lg, tm, lf - (1 : Int32), wr + (1 : Int32), G), rfl, ⟨by first | (simp only [kn_write, if_pos c_1]; done) | (simp [kn_write, c_1]; done), by first | (simp only [kn_write, if_pos c_1]; done) | (simp [kn_write, c_1]; done)⟩, by show va_P _ _ _ t.heap; rw [ht]; exact hP⟩, hS.F ht⟩) hS.2.2 d_N_write_31
  · refine lv_iconst (v := 0) hx hb d_N_write_8 (by decide) ?_
    exact W.zret (v := 0) hx hb hr (by decide) (fun t ht hW => ⟨⟨_, (lg, tm, lf, wr, G), rfl, ⟨by first | (simp only [kn_write, if_neg c_1]; done) | (simp [kn_write, c_1]; done), by first | (simp only [kn_write, if_neg c_1]; done) | (simp [kn_write, c_1]; done)⟩, by show va_P _ _ _ t.heap; rw [ht]; exact hP⟩, hS.F ht⟩) hS.2.2 d_N_write_9
set_option maxHeartbeats 4000000 in
set_option maxRecDepth 100000 in
theorem c_G_has (l : Launch) {dC : Nat → ClassId} {dI : Nat → Nat → Nat} {cI cJ cR : ClassId} {d ar nb : Nat} {ga ha oa : Nat → Nat} (hnd : (kad d ar nb ga ha oa).Nodup) (lg tm lf wr : Int32) (G : Nat → kGV) {j : Nat} (hj : j < 8) (x0 x1 x2 x3 x4 : Int32) (x5 : Nat → Int32) (x6 : Nat → Int64) (p0 : Int32) (sz : Nat) : Met l y_G_has w_G_has ({ frames := 0, cells := 0, slots := 0, locals := 0 }) (kPre (dC, dI) vwCl (kty cI cJ cR) [.ref (ga j), .int p0] sz (kw cI cJ cR d ar nb ga ha oa lg tm lf wr (va_up G j (x0, x1, x2, x3, x4, x5, x6)))) (vp_Si (fun r => r = kg_has x2 p0)) 0 0 (fun _ => False) := by
  refine Met.ofW (cc := b_G_has) (maxL := 2) (ret := (some .boolean)) (by decide) rfl ?_
  intro p e s m args below meth c s₁ B hml hv
  obtain ⟨rfl, hsz, hP, hK⟩ := hv
  have hx := B.exec
  have hb := B.bytes
  have hr := B.returns
  have hts := atoms_spec (ws := w_G_has) B.pre
  have hw := fun (w : Cond) (h : w ∈ kb_B) => hts w (List.mem_cons_of_mem _ h)
  have hown : s.vm.findClass R_G = some m.cls := findClass_of_methodNamed B.named
  have hlocks := B.notSynchronized
  subst hsz
  have hl := lv_entry ([.ref (ga j), .int p0]) (n := 2) (Nat.le_of_ble_eq_true rfl)
  rw [lg_entry_eq]
  generalize (lg_sl ([.ref (ga j), .int p0]) ++ List.replicate (2 - (lg_sl ([.ref (ga j), .int p0])).length) Slot.unset).toArray = ls at hl ⊢
  have hl : lv_has ls 2 [(0, .ref (ga j)), (1, .int p0)] := hl
  refine lv_aload_n hx hb d_G_has_0 rfl (lv_at hl 0 rfl) ?_
  refine va_get (D := (dC, dI)) (ci := 2) (v := .int x2) (C := R_G) (T := F_G) (N := 7) hx hb hw i_G hown hK hP (3 * j + 3) (kw_gG hj) rfl 2 (by decide) (hw _ kb_56) (fun _ h9 => h9) rfl d_G_has_1 ?_
  refine lv_iconst (v := 1) hx hb d_G_has_4 (by decide) ?_
  refine lv_iload_n hx hb d_G_has_5 rfl (lv_at hl 1 rfl) ?_
  refine lv_ishl hx hb d_G_has_6 ?_
  refine lv_iand hx hb d_G_has_7 ?_
  refine lv_if_eq (tgt := 15) hx hb d_G_has_8 (by decide) (fun c_1 => ?_) (fun c_1 => ?_)
  · refine lv_iconst (v := 0) hx hb d_G_has_15 (by decide) ?_
    exact W.zret (v := 0) hx hb hr (by decide) (fun t ht hW => ⟨_, rfl, by first | (simp only [kg_has, if_pos c_1]; done) | (simp [kg_has, c_1]; done), ht⟩) (fun q h => by cases h) d_G_has_16
  · refine lv_iconst (v := 1) hx hb d_G_has_11 (by decide) ?_
    refine lv_goto (tgt := 16) hx hb d_G_has_12 (by decide) ?_
    exact W.zret (v := 1) hx hb hr (by decide) (fun t ht hW => ⟨_, rfl, by first | (simp only [kg_has, if_neg c_1]; done) | (simp [kg_has, c_1]; done), ht⟩) (fun q h => by cases h) d_G_has_16
set_option maxHeartbeats 4000000 in
set_option maxRecDepth 100000 in
theorem c_G_hasJoined (l : Launch) {dC : Nat → ClassId} {dI : Nat → Nat → Nat} {cI cJ cR : ClassId} {d ar nb : Nat} {ga ha oa : Nat → Nat} (hnd : (kad d ar nb ga ha oa).Nodup) (lg tm lf wr : Int32) (G : Nat → kGV) {j : Nat} (hj : j < 8) (x0 x1 x2 x3 x4 : Int32) (x5 : Nat → Int32) (x6 : Nat → Int64) (p0 : Int32) (sz : Nat) : Met l y_G_hasJoined w_G_hasJoined ({ frames := 0, cells := 0, slots := 0, locals := 0 }) (kPre (dC, dI) vwCl (kty cI cJ cR) [.ref (ga j), .int p0] sz (kw cI cJ cR d ar nb ga ha oa lg tm lf wr (va_up G j (x0, x1, x2, x3, x4, x5, x6)))) (vp_Si (fun r => r = kg_has x3 p0)) 0 0 (fun _ => False) := by
  refine Met.ofW (cc := b_G_hasJoined) (maxL := 2) (ret := (some .boolean)) (by decide) rfl ?_
  intro p e s m args below meth c s₁ B hml hv
  obtain ⟨rfl, hsz, hP, hK⟩ := hv
  have hx := B.exec
  have hb := B.bytes
  have hr := B.returns
  have hts := atoms_spec (ws := w_G_hasJoined) B.pre
  have hw := fun (w : Cond) (h : w ∈ kb_B) => hts w (List.mem_cons_of_mem _ h)
  have hown : s.vm.findClass R_G = some m.cls := findClass_of_methodNamed B.named
  have hlocks := B.notSynchronized
  subst hsz
  have hl := lv_entry ([.ref (ga j), .int p0]) (n := 2) (Nat.le_of_ble_eq_true rfl)
  rw [lg_entry_eq]
  generalize (lg_sl ([.ref (ga j), .int p0]) ++ List.replicate (2 - (lg_sl ([.ref (ga j), .int p0])).length) Slot.unset).toArray = ls at hl ⊢
  have hl : lv_has ls 2 [(0, .ref (ga j)), (1, .int p0)] := hl
  refine lv_aload_n hx hb d_G_hasJoined_0 rfl (lv_at hl 0 rfl) ?_
  refine va_get (D := (dC, dI)) (ci := 2) (v := .int x3) (C := R_G) (T := F_G) (N := 7) hx hb hw i_G hown hK hP (3 * j + 3) (kw_gG hj) rfl 3 (by decide) (hw _ kb_58) (fun _ h9 => h9) rfl d_G_hasJoined_1 ?_
  refine lv_iconst (v := 1) hx hb d_G_hasJoined_4 (by decide) ?_
  refine lv_iload_n hx hb d_G_hasJoined_5 rfl (lv_at hl 1 rfl) ?_
  refine lv_ishl hx hb d_G_hasJoined_6 ?_
  refine lv_iand hx hb d_G_hasJoined_7 ?_
  refine lv_if_eq (tgt := 15) hx hb d_G_hasJoined_8 (by decide) (fun c_1 => ?_) (fun c_1 => ?_)
  · refine lv_iconst (v := 0) hx hb d_G_hasJoined_15 (by decide) ?_
    exact W.zret (v := 0) hx hb hr (by decide) (fun t ht hW => ⟨_, rfl, by first | (simp only [kg_has, if_pos c_1]; done) | (simp [kg_has, c_1]; done), ht⟩) (fun q h => by cases h) d_G_hasJoined_16
  · refine lv_iconst (v := 1) hx hb d_G_hasJoined_11 (by decide) ?_
    refine lv_goto (tgt := 16) hx hb d_G_hasJoined_12 (by decide) ?_
    exact W.zret (v := 1) hx hb hr (by decide) (fun t ht hW => ⟨_, rfl, by first | (simp only [kg_has, if_neg c_1]; done) | (simp [kg_has, c_1]; done), ht⟩) (fun q h => by cases h) d_G_hasJoined_16
set_option maxHeartbeats 4000000 in
set_option maxRecDepth 100000 in
theorem c_G_clear (l : Launch) {dC : Nat → ClassId} {dI : Nat → Nat → Nat} {cI cJ cR : ClassId} {d ar nb : Nat} {ga ha oa : Nat → Nat} (hnd : (kad d ar nb ga ha oa).Nodup) (lg tm lf wr : Int32) (G : Nat → kGV) {j : Nat} (hj : j < 8) (x0 x1 x2 x3 x4 : Int32) (x5 : Nat → Int32) (x6 : Nat → Int64) (sz : Nat) : Met l y_G_clear w_G_clear ({ frames := 0, cells := 0, slots := 0, locals := 0 }) (kPre (dC, dI) vwCl (kty cI cJ cR) [.ref (ga j)] sz (kw cI cJ cR d ar nb ga ha oa lg tm lf wr (va_up G j (x0, x1, x2, x3, x4, x5, x6)))) (va_Qv (fun u : kDV => u = (lg, tm, lf, wr, va_up G j (kg_clear (x0, x1, x2, x3, x4, x5, x6)))) (fun u t => va_P (dC, dI) vwCl (kwv cI cJ cR d ar nb ga ha oa u) t.heap) (kA (kad d ar nb ga ha oa) sz)) 0 0 (kA (kad d ar nb ga ha oa) sz) := by
  refine Met.ofW (cc := b_G_clear) (maxL := 1) (ret := none) (by decide) rfl ?_
  intro p e s m args below meth c s₁ B hml hv
  obtain ⟨rfl, hsz, hP, hK⟩ := hv
  have hx := B.exec
  have hb := B.bytes
  have hr := B.returns
  have hts := atoms_spec (ws := w_G_clear) B.pre
  have hw := fun (w : Cond) (h : w ∈ kb_B) => hts w (List.mem_cons_of_mem _ h)
  have hown : s.vm.findClass R_G = some m.cls := findClass_of_methodNamed B.named
  have hlocks := B.notSynchronized
  subst hsz
  generalize hAe : kA (kad d ar nb ga ha oa) s.heap.size = A
  have hA : ∀ q : Nat, s.heap.size ≤ q → A q := fun q h => by rw [← hAe]; exact Or.inr h
  have hAL : ∀ q ∈ (kad d ar nb ga ha oa), A q := fun q h => by rw [← hAe]; exact Or.inl h
  have hS : va_S A s.heap s.heap [] := va_S.rf
  have hl := lv_entry ([.ref (ga j)]) (n := 1) (Nat.le_of_ble_eq_true rfl)
  rw [lg_entry_eq]
  generalize (lg_sl ([.ref (ga j)]) ++ List.replicate (1 - (lg_sl ([.ref (ga j)])).length) Slot.unset).toArray = ls at hl ⊢
  have hl : lv_has ls 1 [(0, .ref (ga j))] := hl
  refine lv_aload_n hx hb d_G_clear_0 rfl (lv_at hl 0 rfl) ?_
  refine lv_iconst (v := 0) hx hb d_G_clear_1 (by decide) ?_
  refine va_put (D := (dC, dI)) (ci := 2) (v := .int 0) (ty := .int) (C := R_G) (T := F_G) (N := 7) hx hb hw i_G t_G t_G_ok n_G hown hK hP (kw_D hnd hAL) hS (3 * j + 3) (kw_gG hj) rfl 1 (by decide) (hw _ kb_54) (fun _ h9 => h9) rfl (by decide +kernel) rfl rfl (Nat.le_of_ble_eq_true rfl) d_G_clear_2 (fun H locs hP _ hS => ?_)
  have hP : va_P (dC, dI) vwCl (kw cI cJ cR d ar nb ga ha oa lg tm lf wr (va_up G j (x0, 0, x2, x3, x4, x5, x6))) H := by rw [← kw_sG hj]; exact hP
  refine lv_aload_n hx hb d_G_clear_5 rfl (lv_at hl 0 rfl) ?_
  refine lv_iconst (v := 0) hx hb d_G_clear_6 (by decide) ?_
  refine va_put (D := (dC, dI)) (ci := 2) (v := .int 0) (ty := .int) (C := R_G) (T := F_G) (N := 7) hx hb hw i_G t_G t_G_ok n_G hown hK hP (kw_D hnd hAL) hS (3 * j + 3) (kw_gG hj) rfl 2 (by decide) (hw _ kb_56) (fun _ h9 => h9) rfl (by decide +kernel) rfl rfl (Nat.le_of_ble_eq_true rfl) d_G_clear_7 (fun H locs hP _ hS => ?_)
  have hP : va_P (dC, dI) vwCl (kw cI cJ cR d ar nb ga ha oa lg tm lf wr (va_up G j (x0, 0, 0, x3, x4, x5, x6))) H := by rw [← kw_sG hj]; exact hP
  refine lv_aload_n hx hb d_G_clear_10 rfl (lv_at hl 0 rfl) ?_
  refine lv_iconst (v := 0) hx hb d_G_clear_11 (by decide) ?_
  refine va_put (D := (dC, dI)) (ci := 2) (v := .int 0) (ty := .int) (C := R_G) (T := F_G) (N := 7) hx hb hw i_G t_G t_G_ok n_G hown hK hP (kw_D hnd hAL) hS (3 * j + 3) (kw_gG hj) rfl 3 (by decide) (hw _ kb_58) (fun _ h9 => h9) rfl (by decide +kernel) rfl rfl (Nat.le_of_ble_eq_true rfl) d_G_clear_12 (fun H locs hP _ hS => ?_)
  have hP : va_P (dC, dI) vwCl (kw cI cJ cR d ar nb ga ha oa lg tm lf wr (va_up G j (x0, 0, 0, 0, x4, x5, x6))) H := by rw [← kw_sG hj]; exact hP
  exact W.vret hx hb hr (fun t ht hW => ⟨⟨(lg, tm, lf, wr, (va_up G j (x0, 0, 0, 0, x4, x5, x6))), rfl, by first | (simp only [kg_clear]; done) | (simp [kg_clear]; done), by show va_P _ _ _ t.heap; rw [ht]; exact hP⟩, hS.F ht⟩) hS.2.2 d_G_clear_15
set_option maxHeartbeats 4000000 in
set_option maxRecDepth 100000 in
theorem c_G_mix (l : Launch) {dC : Nat → ClassId} {dI : Nat → Nat → Nat} {cI cJ cR : ClassId} {d ar nb : Nat} {ga ha oa : Nat → Nat} (hnd : (kad d ar nb ga ha oa).Nodup) (lg tm lf wr : Int32) (G : Nat → kGV) {j : Nat} (hj : j < 8) (x0 x1 x2 x3 x4 : Int32) (x5 : Nat → Int32) (x6 : Nat → Int64) (p0 : Int32) (sz : Nat) : Met l y_G_mix w_G_mix ({ frames := 0, cells := 0, slots := 0, locals := 0 }) (kPre (dC, dI) vwCl (kty cI cJ cR) [.ref (ga j), .int p0] sz (kw cI cJ cR d ar nb ga ha oa lg tm lf wr (va_up G j (x0, x1, x2, x3, x4, x5, x6)))) (va_Qv (fun u : kDV => u = (lg, tm, lf, wr, va_up G j (kg_mix p0 (x0, x1, x2, x3, x4, x5, x6)))) (fun u t => va_P (dC, dI) vwCl (kwv cI cJ cR d ar nb ga ha oa u) t.heap) (kA (kad d ar nb ga ha oa) sz)) 0 0 (kA (kad d ar nb ga ha oa) sz) := by
  refine Met.ofW (cc := b_G_mix) (maxL := 2) (ret := none) (by decide) rfl ?_
  intro p e s m args below meth c s₁ B hml hv
  obtain ⟨rfl, hsz, hP, hK⟩ := hv
  have hx := B.exec
  have hb := B.bytes
  have hr := B.returns
  have hts := atoms_spec (ws := w_G_mix) B.pre
  have hw := fun (w : Cond) (h : w ∈ kb_B) => hts w (List.mem_cons_of_mem _ h)
  have hown : s.vm.findClass R_G = some m.cls := findClass_of_methodNamed B.named
  have hlocks := B.notSynchronized
  subst hsz
  generalize hAe : kA (kad d ar nb ga ha oa) s.heap.size = A
  have hA : ∀ q : Nat, s.heap.size ≤ q → A q := fun q h => by rw [← hAe]; exact Or.inr h
  have hAL : ∀ q ∈ (kad d ar nb ga ha oa), A q := fun q h => by rw [← hAe]; exact Or.inl h
  have hS : va_S A s.heap s.heap [] := va_S.rf
  have hl := lv_entry ([.ref (ga j), .int p0]) (n := 2) (Nat.le_of_ble_eq_true rfl)
  rw [lg_entry_eq]
  generalize (lg_sl ([.ref (ga j), .int p0]) ++ List.replicate (2 - (lg_sl ([.ref (ga j), .int p0])).length) Slot.unset).toArray = ls at hl ⊢
  have hl : lv_has ls 2 [(0, .ref (ga j)), (1, .int p0)] := hl
  refine lv_aload_n hx hb d_G_mix_0 rfl (lv_at hl 0 rfl) ?_
  refine lv_iconst (v := 1) hx hb d_G_mix_1 (by decide) ?_
  refine va_put (D := (dC, dI)) (ci := 2) (v := .int 1) (ty := .int) (C := R_G) (T := F_G) (N := 7) hx hb hw i_G t_G t_G_ok n_G hown hK hP (kw_D hnd hAL) hS (3 * j + 3) (kw_gG hj) rfl 1 (by decide) (hw _ kb_54) (fun _ h9 => h9) rfl (by decide +kernel) rfl rfl (Nat.le_of_ble_eq_true rfl) d_G_mix_2 (fun H locs hP _ hS => ?_)
  have hP : va_P (dC, dI) vwCl (kw cI cJ cR d ar nb ga ha oa lg tm lf wr (va_up G j (x0, 1, x2, x3, x4, x5, x6))) H := by rw [← kw_sG hj]; exact hP
  refine lv_aload_n hx hb d_G_mix_5 rfl (lv_at hl 0 rfl) ?_
  refine lv_iconst (v := 0) hx hb d_G_mix_6 (by decide) ?_
  refine va_put (D := (dC, dI)) (ci := 2) (v := .int 0) (ty := .int) (C := R_G) (T := F_G) (N := 7) hx hb hw i_G t_G t_G_ok n_G hown hK hP (kw_D hnd hAL) hS (3 * j + 3) (kw_gG hj) rfl 3 (by decide) (hw _ kb_58) (fun _ h9 => h9) rfl (by decide +kernel) rfl rfl (Nat.le_of_ble_eq_true rfl) d_G_mix_7 (fun H locs hP _ hS => ?_)
  have hP : va_P (dC, dI) vwCl (kw cI cJ cR d ar nb ga ha oa lg tm lf wr (va_up G j (x0, 1, x2, 0, x4, x5, x6))) H := by rw [← kw_sG hj]; exact hP
  refine lv_aload_n hx hb d_G_mix_10 rfl (lv_at hl 0 rfl) ?_
  refine lv_iload_n hx hb d_G_mix_11 rfl (lv_at hl 1 rfl) ?_
  refine lv_bipush (v := 20) hx hb d_G_mix_12 (by decide) ?_
  refine lv_iadd hx hb d_G_mix_14 ?_
  refine va_put (D := (dC, dI)) (ci := 2) (v := .int (p0 + (20 : Int32))) (ty := .int) (C := R_G) (T := F_G) (N := 7) hx hb hw i_G t_G t_G_ok n_G hown hK hP (kw_D hnd hAL) hS (3 * j + 3) (kw_gG hj) rfl 4 (by decide) (hw _ kb_60) (fun _ h9 => h9) rfl (by decide +kernel) rfl rfl (Nat.le_of_ble_eq_true rfl) d_G_mix_15 (fun H locs hP _ hS => ?_)
  have hP : va_P (dC, dI) vwCl (kw cI cJ cR d ar nb ga ha oa lg tm lf wr (va_up G j (x0, 1, x2, 0, p0 + (20 : Int32), x5, x6))) H := by rw [← kw_sG hj]; exact hP
  exact W.vret hx hb hr (fun t ht hW => ⟨⟨(lg, tm, lf, wr, (va_up G j (x0, 1, x2, 0, p0 + (20 : Int32), x5, x6))), rfl, by first | (simp only [kg_mix]; done) | (simp [kg_mix]; done), by show va_P _ _ _ t.heap; rw [ht]; exact hP⟩, hS.F ht⟩) hS.2.2 d_G_mix_18
set_option maxHeartbeats 4000000 in
set_option maxRecDepth 100000 in
theorem c_G_takeIn (l : Launch) {dC : Nat → ClassId} {dI : Nat → Nat → Nat} {cI cJ cR : ClassId} {d ar nb : Nat} {ga ha oa : Nat → Nat} (hnd : (kad d ar nb ga ha oa).Nodup) (lg tm lf wr : Int32) (G : Nat → kGV) {j : Nat} (hj : j < 8) (x0 x1 x2 x3 x4 : Int32) (x5 : Nat → Int32) (x6 : Nat → Int64) (p0 : Int32) (p1 : Int32) (hp0 : vp_in p0 8) (sz : Nat) : Met l y_G_takeIn w_G_takeIn ({ frames := 1, cells := 0, slots := 0, locals := 30 }) (kPre (dC, dI) vwCl (kty cI cJ cR) [.ref (ga j), .int p0, .int p1] sz (kw cI cJ cR d ar nb ga ha oa lg tm lf wr (va_up G j (x0, x1, x2, x3, x4, x5, x6)))) (va_Qv (fun u : kDV => u = (lg, tm, lf, wr, va_up G j (kg_take p0 p1 (x0, x1, x2, x3, x4, x5, x6)))) (fun u t => va_P (dC, dI) vwCl (kwv cI cJ cR d ar nb ga ha oa u) t.heap) (kA (kad d ar nb ga ha oa) sz)) 0 0 (kA (kad d ar nb ga ha oa) sz) := by
  refine Met.ofW (cc := b_G_takeIn) (maxL := 3) (ret := none) (by decide) rfl ?_
  intro p e s m args below meth c s₁ B hml hv
  obtain ⟨rfl, hsz, hP, hK⟩ := hv
  have hx := B.exec
  have hb := B.bytes
  have hr := B.returns
  have hts := atoms_spec (ws := w_G_takeIn) B.pre
  have hw := fun (w : Cond) (h : w ∈ kb_B) => hts w (List.mem_cons_of_mem _ h)
  have hown : s.vm.findClass R_G = some m.cls := findClass_of_methodNamed B.named
  have hlocks := B.notSynchronized
  subst hsz
  generalize hAe : kA (kad d ar nb ga ha oa) s.heap.size = A
  have hA : ∀ q : Nat, s.heap.size ≤ q → A q := fun q h => by rw [← hAe]; exact Or.inr h
  have hAL : ∀ q ∈ (kad d ar nb ga ha oa), A q := fun q h => by rw [← hAe]; exact Or.inl h
  have hS : va_S A s.heap s.heap [] := va_S.rf
  have hl := lv_entry ([.ref (ga j), .int p0, .int p1]) (n := 3) (Nat.le_of_ble_eq_true rfl)
  rw [lg_entry_eq]
  generalize (lg_sl ([.ref (ga j), .int p0, .int p1]) ++ List.replicate (3 - (lg_sl ([.ref (ga j), .int p0, .int p1])).length) Slot.unset).toArray = ls at hl ⊢
  have hl : lv_has ls 3 [(0, .ref (ga j)), (1, .int p0), (2, .int p1)] := hl
  refine lv_aload_n hx hb d_G_takeIn_0 rfl (lv_at hl 0 rfl) ?_
  refine va_get (D := (dC, dI)) (ci := 2) (v := .int x1) (C := R_G) (T := F_G) (N := 7) hx hb hw i_G hown hK hP (3 * j + 3) (kw_gG hj) rfl 1 (by decide) (hw _ kb_54) (fun _ h9 => h9) rfl d_G_takeIn_1 ?_
  refine lv_iconst (v := 1) hx hb d_G_takeIn_4 (by decide) ?_
  refine lv_icmp_eq (tgt := 13) hx hb d_G_takeIn_5 (by decide) (fun c_1 => ?_) (fun c_1 => ?_)
  · refine lv_aload_n hx hb d_G_takeIn_13 rfl (lv_at hl 0 rfl) ?_
    refine lv_dup hx hb d_G_takeIn_14 rfl ?_
    refine va_get (D := (dC, dI)) (ci := 2) (v := .int x2) (C := R_G) (T := F_G) (N := 7) hx hb hw i_G hown hK hP (3 * j + 3) (kw_gG hj) rfl 2 (by decide) (hw _ kb_56) (fun _ h9 => h9) rfl d_G_takeIn_15 ?_
    refine lv_iconst (v := 1) hx hb d_G_takeIn_18 (by decide) ?_
    refine lv_iload_n hx hb d_G_takeIn_19 rfl (lv_at hl 1 rfl) ?_
    refine lv_ishl hx hb d_G_takeIn_20 ?_
    refine lv_ior hx hb d_G_takeIn_21 ?_
    refine va_put (D := (dC, dI)) (ci := 2) (v := .int (x2 ||| ((1 : Int32) <<< (p0 &&& 31)))) (ty := .int) (C := R_G) (T := F_G) (N := 7) hx hb hw i_G t_G t_G_ok n_G hown hK hP (kw_D hnd hAL) hS (3 * j + 3) (kw_gG hj) rfl 2 (by decide) (hw _ kb_56) (fun _ h9 => h9) rfl (by decide +kernel) rfl rfl (Nat.le_of_ble_eq_true rfl) d_G_takeIn_22 (fun H locs hP _ hS => ?_)
    have hP : va_P (dC, dI) vwCl (kw cI cJ cR d ar nb ga ha oa lg tm lf wr (va_up G j (x0, x1, x2 ||| ((1 : Int32) <<< (p0 &&& 31)), x3, x4, x5, x6))) H := by rw [← kw_sG hj]; exact hP
    refine lv_aload_n hx hb d_G_takeIn_25 rfl (lv_at hl 0 rfl) ?_
    refine lv_dup hx hb d_G_takeIn_26 rfl ?_
    refine va_get (D := (dC, dI)) (ci := 2) (v := .int x3) (C := R_G) (T := F_G) (N := 7) hx hb hw i_G hown hK hP (3 * j + 3) (kw_gG hj) rfl 3 (by decide) (hw _ kb_58) (fun _ h9 => h9) rfl d_G_takeIn_27 ?_
    refine lv_iconst (v := 1) hx hb d_G_takeIn_30 (by decide) ?_
    refine lv_iload_n hx hb d_G_takeIn_31 rfl (lv_at hl 1 rfl) ?_
    refine lv_ishl hx hb d_G_takeIn_32 ?_
    refine lv_ior hx hb d_G_takeIn_33 ?_
    refine va_put (D := (dC, dI)) (ci := 2) (v := .int (x3 ||| ((1 : Int32) <<< (p0 &&& 31)))) (ty := .int) (C := R_G) (T := F_G) (N := 7) hx hb hw i_G t_G t_G_ok n_G hown hK hP (kw_D hnd hAL) hS (3 * j + 3) (kw_gG hj) rfl 3 (by decide) (hw _ kb_58) (fun _ h9 => h9) rfl (by decide +kernel) rfl rfl (Nat.le_of_ble_eq_true rfl) d_G_takeIn_34 (fun H locs hP _ hS => ?_)
    have hP : va_P (dC, dI) vwCl (kw cI cJ cR d ar nb ga ha oa lg tm lf wr (va_up G j (x0, x1, x2 ||| ((1 : Int32) <<< (p0 &&& 31)), x3 ||| ((1 : Int32) <<< (p0 &&& 31)), x4, x5, x6))) H := by rw [← kw_sG hj]; exact hP
    refine lv_aload_n hx hb d_G_takeIn_37 rfl (lv_at hl 0 rfl) ?_
    refine va_get (D := (dC, dI)) (ci := 2) (v := .ref (ha j)) (C := R_G) (T := F_G) (N := 7) hx hb hw i_G hown hK hP (3 * j + 3) (kw_gG hj) rfl 5 (by decide) (hw _ kb_61) (fun _ h9 => h9) rfl d_G_takeIn_38 ?_
    refine lv_iload_n hx hb d_G_takeIn_41 rfl (lv_at hl 1 rfl) ?_
    refine lv_iload_n hx hb d_G_takeIn_42 rfl (lv_at hl 2 rfl) ?_
    refine va_iast hx hb hK hP (kw_D hnd hAL) hS (3 * j + 4) 0 (kw_gH hj) rfl hp0 d_G_takeIn_43 (fun H locs hP _ hS => ?_)
    have hP : va_P (dC, dI) vwCl (kw cI cJ cR d ar nb ga ha oa lg tm lf wr (va_up G j (x0, x1, x2 ||| ((1 : Int32) <<< (p0 &&& 31)), x3 ||| ((1 : Int32) <<< (p0 &&& 31)), x4, upd x5 p0.toNatClampNeg p1, x6))) H := by rw [← kw_sH hj]; exact hP
    exact W.vret hx hb hr (fun t ht hW => ⟨⟨(lg, tm, lf, wr, (va_up G j (x0, x1, x2 ||| ((1 : Int32) <<< (p0 &&& 31)), x3 ||| ((1 : Int32) <<< (p0 &&& 31)), x4, upd x5 p0.toNatClampNeg p1, x6))), rfl, by first | (simp only [kg_take, kg_in, kg_mix, if_pos c_1]; done) | (simp [kg_take, kg_in, kg_mix, c_1]; done), by show va_P _ _ _ t.heap; rw [ht]; exact hP⟩, hS.F ht⟩) hS.2.2 d_G_takeIn_44
  · refine lv_aload_n hx hb d_G_takeIn_8 rfl (lv_at hl 0 rfl) ?_
    refine lv_iload_n hx hb d_G_takeIn_9 rfl (lv_at hl 2 rfl) ?_
    refine kc_v (Wd := kwv cI cJ cR d ar nb ga ha oa) (va_runV (As := [.int p1]) (rest := []) ⟨hx, hb, hml, hown, hw⟩ (c_G_mix l hnd lg tm lf wr G hj x0 x1 x2 x3 x4 x5 x6 p1 _) (cwV 1 hw (kb_V kb_203 kb_204 kb_205 kb_4 kb_206) rfl rfl rfl (by decide +kernel) ⟨Nat.le_of_ble_eq_true rfl, Nat.le_of_ble_eq_true rfl⟩) (kPV (va_recv hK hP (ci := 2) (q0 := (3 * j + 3)) rfl (kw_gG hj)) hP hK) rfl rfl hl.1 rfl (lv_room (Nat.le_of_ble_eq_true rfl)) d_G_takeIn_10 ⟨Nat.le_of_ble_eq_true rfl, Nat.le_of_ble_eq_true rfl⟩) hS hA hAL (fun u_1 H locs hw hP _ _ hS => ?_)
    subst hw
    have hP : va_P (dC, dI) vwCl (kw cI cJ cR d ar nb ga ha oa lg tm lf wr (va_up G j (x0, 1, x2, 0, p1 + 20, x5, x6))) _ := hP
    refine lv_aload_n hx hb d_G_takeIn_13 rfl (lv_at hl 0 rfl) ?_
    refine lv_dup hx hb d_G_takeIn_14 rfl ?_
    refine va_get (D := (dC, dI)) (ci := 2) (v := .int x2) (C := R_G) (T := F_G) (N := 7) hx hb hw i_G hown hK hP (3 * j + 3) (kw_gG hj) rfl 2 (by decide) (hw _ kb_56) (fun _ h9 => h9) rfl d_G_takeIn_15 ?_
    refine lv_iconst (v := 1) hx hb d_G_takeIn_18 (by decide) ?_
    refine lv_iload_n hx hb d_G_takeIn_19 rfl (lv_at hl 1 rfl) ?_
    refine lv_ishl hx hb d_G_takeIn_20 ?_
    refine lv_ior hx hb d_G_takeIn_21 ?_
    refine va_put (D := (dC, dI)) (ci := 2) (v := .int (x2 ||| ((1 : Int32) <<< (p0 &&& 31)))) (ty := .int) (C := R_G) (T := F_G) (N := 7) hx hb hw i_G t_G t_G_ok n_G hown hK hP (kw_D hnd hAL) hS (3 * j + 3) (kw_gG hj) rfl 2 (by decide) (hw _ kb_56) (fun _ h9 => h9) rfl (by decide +kernel) rfl rfl (Nat.le_of_ble_eq_true rfl) d_G_takeIn_22 (fun H locs hP _ hS => ?_)
    have hP : va_P (dC, dI) vwCl (kw cI cJ cR d ar nb ga ha oa lg tm lf wr (va_up G j (x0, 1, x2 ||| ((1 : Int32) <<< (p0 &&& 31)), 0, p1 + 20, x5, x6))) H := by rw [← kw_sG hj]; exact hP
    refine lv_aload_n hx hb d_G_takeIn_25 rfl (lv_at hl 0 rfl) ?_
    refine lv_dup hx hb d_G_takeIn_26 rfl ?_
    refine va_get (D := (dC, dI)) (ci := 2) (v := .int 0) (C := R_G) (T := F_G) (N := 7) hx hb hw i_G hown hK hP (3 * j + 3) (kw_gG hj) rfl 3 (by decide) (hw _ kb_58) (fun _ h9 => h9) rfl d_G_takeIn_27 ?_
    refine lv_iconst (v := 1) hx hb d_G_takeIn_30 (by decide) ?_
    refine lv_iload_n hx hb d_G_takeIn_31 rfl (lv_at hl 1 rfl) ?_
    refine lv_ishl hx hb d_G_takeIn_32 ?_
    refine lv_ior hx hb d_G_takeIn_33 ?_
    refine va_put (D := (dC, dI)) (ci := 2) (v := .int ((0 : Int32) ||| ((1 : Int32) <<< (p0 &&& 31)))) (ty := .int) (C := R_G) (T := F_G) (N := 7) hx hb hw i_G t_G t_G_ok n_G hown hK hP (kw_D hnd hAL) hS (3 * j + 3) (kw_gG hj) rfl 3 (by decide) (hw _ kb_58) (fun _ h9 => h9) rfl (by decide +kernel) rfl rfl (Nat.le_of_ble_eq_true rfl) d_G_takeIn_34 (fun H locs hP _ hS => ?_)
    have hP : va_P (dC, dI) vwCl (kw cI cJ cR d ar nb ga ha oa lg tm lf wr (va_up G j (x0, 1, x2 ||| ((1 : Int32) <<< (p0 &&& 31)), (0 : Int32) ||| ((1 : Int32) <<< (p0 &&& 31)), p1 + 20, x5, x6))) H := by rw [← kw_sG hj]; exact hP
    refine lv_aload_n hx hb d_G_takeIn_37 rfl (lv_at hl 0 rfl) ?_
    refine va_get (D := (dC, dI)) (ci := 2) (v := .ref (ha j)) (C := R_G) (T := F_G) (N := 7) hx hb hw i_G hown hK hP (3 * j + 3) (kw_gG hj) rfl 5 (by decide) (hw _ kb_61) (fun _ h9 => h9) rfl d_G_takeIn_38 ?_
    refine lv_iload_n hx hb d_G_takeIn_41 rfl (lv_at hl 1 rfl) ?_
    refine lv_iload_n hx hb d_G_takeIn_42 rfl (lv_at hl 2 rfl) ?_
    refine va_iast hx hb hK hP (kw_D hnd hAL) hS (3 * j + 4) 0 (kw_gH hj) rfl hp0 d_G_takeIn_43 (fun H locs hP _ hS => ?_)
    have hP : va_P (dC, dI) vwCl (kw cI cJ cR d ar nb ga ha oa lg tm lf wr (va_up G j (x0, 1, x2 ||| ((1 : Int32) <<< (p0 &&& 31)), (0 : Int32) ||| ((1 : Int32) <<< (p0 &&& 31)), p1 + 20, upd x5 p0.toNatClampNeg p1, x6))) H := by rw [← kw_sH hj]; exact hP
    exact W.vret hx hb hr (fun t ht hW => ⟨⟨(lg, tm, lf, wr, (va_up G j (x0, 1, x2 ||| ((1 : Int32) <<< (p0 &&& 31)), (0 : Int32) ||| ((1 : Int32) <<< (p0 &&& 31)), p1 + 20, upd x5 p0.toNatClampNeg p1, x6))), rfl, by first | (simp only [kg_take, kg_in, kg_mix, if_neg c_1]; done) | (simp [kg_take, kg_in, kg_mix, c_1]; done), by show va_P _ _ _ t.heap; rw [ht]; exact hP⟩, hS.F ht⟩) hS.2.2 d_G_takeIn_44
set_option maxHeartbeats 4000000 in
set_option maxRecDepth 100000 in
theorem c_G_putOut (l : Launch) {dC : Nat → ClassId} {dI : Nat → Nat → Nat} {cI cJ cR : ClassId} {d ar nb : Nat} {ga ha oa : Nat → Nat} (hnd : (kad d ar nb ga ha oa).Nodup) (lg tm lf wr : Int32) (G : Nat → kGV) {j : Nat} (hj : j < 8) (x0 x1 x2 x3 x4 : Int32) (x5 : Nat → Int32) (x6 : Nat → Int64) (p0 : Int32) (p1 : Int32) (sz : Nat) : Met l y_G_putOut w_G_putOut ({ frames := 1, cells := 0, slots := 0, locals := 30 }) (kPre (dC, dI) vwCl (kty cI cJ cR) [.ref (ga j), .int p0, .int p1] sz (kw cI cJ cR d ar nb ga ha oa lg tm lf wr (va_up G j (x0, x1, x2, x3, x4, x5, x6)))) (va_Qv (fun u : kDV => u = (lg, tm, lf, wr, va_up G j (kg_out p0 p1 (x0, x1, x2, x3, x4, x5, x6)))) (fun u t => va_P (dC, dI) vwCl (kwv cI cJ cR d ar nb ga ha oa u) t.heap) (kA (kad d ar nb ga ha oa) sz)) 0 0 (kA (kad d ar nb ga ha oa) sz) := by
  refine Met.ofW (cc := b_G_putOut) (maxL := 3) (ret := none) (by decide) rfl ?_
  intro p e s m args below meth c s₁ B hml hv
  obtain ⟨rfl, hsz, hP, hK⟩ := hv
  have hx := B.exec
  have hb := B.bytes
  have hr := B.returns
  have hts := atoms_spec (ws := w_G_putOut) B.pre
  have hw := fun (w : Cond) (h : w ∈ kb_B) => hts w (List.mem_cons_of_mem _ h)
  have hown : s.vm.findClass R_G = some m.cls := findClass_of_methodNamed B.named
  have hlocks := B.notSynchronized
  subst hsz
  generalize hAe : kA (kad d ar nb ga ha oa) s.heap.size = A
  have hA : ∀ q : Nat, s.heap.size ≤ q → A q := fun q h => by rw [← hAe]; exact Or.inr h
  have hAL : ∀ q ∈ (kad d ar nb ga ha oa), A q := fun q h => by rw [← hAe]; exact Or.inl h
  have hS : va_S A s.heap s.heap [] := va_S.rf
  have hl := lv_entry ([.ref (ga j), .int p0, .int p1]) (n := 3) (Nat.le_of_ble_eq_true rfl)
  rw [lg_entry_eq]
  generalize (lg_sl ([.ref (ga j), .int p0, .int p1]) ++ List.replicate (3 - (lg_sl ([.ref (ga j), .int p0, .int p1])).length) Slot.unset).toArray = ls at hl ⊢
  have hl : lv_has ls 3 [(0, .ref (ga j)), (1, .int p0), (2, .int p1)] := hl
  refine lv_aload_n hx hb d_G_putOut_0 rfl (lv_at hl 0 rfl) ?_
  refine lv_dup hx hb d_G_putOut_1 rfl ?_
  refine va_get (D := (dC, dI)) (ci := 2) (v := .int x2) (C := R_G) (T := F_G) (N := 7) hx hb hw i_G hown hK hP (3 * j + 3) (kw_gG hj) rfl 2 (by decide) (hw _ kb_56) (fun _ h9 => h9) rfl d_G_putOut_2 ?_
  refine lv_iload_n hx hb d_G_putOut_5 rfl (lv_at hl 1 rfl) ?_
  refine lv_iconst (v := (-1)) hx hb d_G_putOut_6 (by decide) ?_
  refine lv_ixor hx hb d_G_putOut_7 ?_
  refine lv_iand hx hb d_G_putOut_8 ?_
  refine va_put (D := (dC, dI)) (ci := 2) (v := .int (x2 &&& (p0 ^^^ (-1 : Int32)))) (ty := .int) (C := R_G) (T := F_G) (N := 7) hx hb hw i_G t_G t_G_ok n_G hown hK hP (kw_D hnd hAL) hS (3 * j + 3) (kw_gG hj) rfl 2 (by decide) (hw _ kb_56) (fun _ h9 => h9) rfl (by decide +kernel) rfl rfl (Nat.le_of_ble_eq_true rfl) d_G_putOut_9 (fun H locs hP _ hS => ?_)
  have hP : va_P (dC, dI) vwCl (kw cI cJ cR d ar nb ga ha oa lg tm lf wr (va_up G j (x0, x1, x2 &&& (p0 ^^^ (-1 : Int32)), x3, x4, x5, x6))) H := by rw [← kw_sG hj]; exact hP
  refine lv_aload_n hx hb d_G_putOut_12 rfl (lv_at hl 0 rfl) ?_
  refine lv_dup hx hb d_G_putOut_13 rfl ?_
  refine va_get (D := (dC, dI)) (ci := 2) (v := .int x3) (C := R_G) (T := F_G) (N := 7) hx hb hw i_G hown hK hP (3 * j + 3) (kw_gG hj) rfl 3 (by decide) (hw _ kb_58) (fun _ h9 => h9) rfl d_G_putOut_14 ?_
  refine lv_iload_n hx hb d_G_putOut_17 rfl (lv_at hl 1 rfl) ?_
  refine lv_iconst (v := (-1)) hx hb d_G_putOut_18 (by decide) ?_
  refine lv_ixor hx hb d_G_putOut_19 ?_
  refine lv_iand hx hb d_G_putOut_20 ?_
  refine va_put (D := (dC, dI)) (ci := 2) (v := .int (x3 &&& (p0 ^^^ (-1 : Int32)))) (ty := .int) (C := R_G) (T := F_G) (N := 7) hx hb hw i_G t_G t_G_ok n_G hown hK hP (kw_D hnd hAL) hS (3 * j + 3) (kw_gG hj) rfl 3 (by decide) (hw _ kb_58) (fun _ h9 => h9) rfl (by decide +kernel) rfl rfl (Nat.le_of_ble_eq_true rfl) d_G_putOut_21 (fun H locs hP _ hS => ?_)
  have hP : va_P (dC, dI) vwCl (kw cI cJ cR d ar nb ga ha oa lg tm lf wr (va_up G j (x0, x1, x2 &&& (p0 ^^^ (-1 : Int32)), x3 &&& (p0 ^^^ (-1 : Int32)), x4, x5, x6))) H := by rw [← kw_sG hj]; exact hP
  refine lv_aload_n hx hb d_G_putOut_24 rfl (lv_at hl 0 rfl) ?_
  refine va_get (D := (dC, dI)) (ci := 2) (v := .int (x2 &&& (p0 ^^^ (-1 : Int32)))) (C := R_G) (T := F_G) (N := 7) hx hb hw i_G hown hK hP (3 * j + 3) (kw_gG hj) rfl 2 (by decide) (hw _ kb_56) (fun _ h9 => h9) rfl d_G_putOut_25 ?_
  refine lv_if_ne (tgt := 38) hx hb d_G_putOut_28 (by decide) (fun c_1 => ?_) (fun c_1 => ?_)
  · refine lv_aload_n hx hb d_G_putOut_38 rfl (lv_at hl 0 rfl) ?_
    refine va_get (D := (dC, dI)) (ci := 2) (v := .int x1) (C := R_G) (T := F_G) (N := 7) hx hb hw i_G hown hK hP (3 * j + 3) (kw_gG hj) rfl 1 (by decide) (hw _ kb_54) (fun _ h9 => h9) rfl d_G_putOut_39 ?_
    refine lv_iconst (v := 2) hx hb d_G_putOut_42 (by decide) ?_
    refine lv_icmp_ne (tgt := 51) hx hb d_G_putOut_43 (by decide) (fun c_2 => ?_) (fun c_2 => ?_)
    · exact W.vret hx hb hr (fun t ht hW => ⟨⟨(lg, tm, lf, wr, (va_up G j (x0, x1, x2 &&& (p0 ^^^ (-1 : Int32)), x3 &&& (p0 ^^^ (-1 : Int32)), x4, x5, x6))), rfl, by first | (simp only [kg_out, kg_rid, kg_clear, kg_mix, if_neg c_1, if_neg c_2]; done) | (simp [kg_out, kg_rid, kg_clear, kg_mix, c_1, c_2]; done), by show va_P _ _ _ t.heap; rw [ht]; exact hP⟩, hS.F ht⟩) hS.2.2 d_G_putOut_51
    · refine lv_aload_n hx hb d_G_putOut_46 rfl (lv_at hl 0 rfl) ?_
      refine lv_iload_n hx hb d_G_putOut_47 rfl (lv_at hl 2 rfl) ?_
      refine kc_v (Wd := kwv cI cJ cR d ar nb ga ha oa) (va_runV (As := [.int p1]) (rest := []) ⟨hx, hb, hml, hown, hw⟩ (c_G_mix l hnd lg tm lf wr G hj x0 x1 (x2 &&& (p0 ^^^ (-1 : Int32))) (x3 &&& (p0 ^^^ (-1 : Int32))) x4 x5 x6 p1 _) (cwV 1 hw (kb_V kb_203 kb_204 kb_205 kb_4 kb_206) rfl rfl rfl (by decide +kernel) ⟨Nat.le_of_ble_eq_true rfl, Nat.le_of_ble_eq_true rfl⟩) (kPV (va_recv hK hP (ci := 2) (q0 := (3 * j + 3)) rfl (kw_gG hj)) hP hK) rfl rfl hl.1 rfl (lv_room (Nat.le_of_ble_eq_true rfl)) d_G_putOut_48 ⟨Nat.le_of_ble_eq_true rfl, Nat.le_of_ble_eq_true rfl⟩) hS hA hAL (fun u_1 H locs hw hP _ _ hS => ?_)
      subst hw
      have hP : va_P (dC, dI) vwCl (kw cI cJ cR d ar nb ga ha oa lg tm lf wr (va_up G j (x0, 1, x2 &&& (p0 ^^^ (-1 : Int32)), 0, p1 + 20, x5, x6))) _ := hP
      exact W.vret hx hb hr (fun t ht hW => ⟨⟨(lg, tm, lf, wr, (va_up G j (x0, 1, x2 &&& (p0 ^^^ (-1 : Int32)), 0, p1 + 20, x5, x6))), rfl, by first | (simp only [kg_out, kg_rid, kg_clear, kg_mix, if_neg c_1, if_pos c_2]; done) | (simp [kg_out, kg_rid, kg_clear, kg_mix, c_1, c_2]; done), by show va_P _ _ _ t.heap; rw [ht]; exact hP⟩, hS.F ht⟩) hS.2.2 d_G_putOut_51
  · refine lv_aload_n hx hb d_G_putOut_31 rfl (lv_at hl 0 rfl) ?_
    refine kc_v (Wd := kwv cI cJ cR d ar nb ga ha oa) (va_runV (As := []) (rest := []) ⟨hx, hb, hml, hown, hw⟩ (c_G_clear l hnd lg tm lf wr G hj x0 x1 (x2 &&& (p0 ^^^ (-1 : Int32))) (x3 &&& (p0 ^^^ (-1 : Int32))) x4 x5 x6 _) (cwV 0 hw (kb_V kb_211 kb_106 kb_107 kb_4 kb_108) rfl rfl rfl (by decide +kernel) ⟨Nat.le_of_ble_eq_true rfl, Nat.le_of_ble_eq_true rfl⟩) (kPV (va_recv hK hP (ci := 2) (q0 := (3 * j + 3)) rfl (kw_gG hj)) hP hK) rfl rfl hl.1 rfl (lv_room (Nat.le_of_ble_eq_true rfl)) d_G_putOut_32 ⟨Nat.le_of_ble_eq_true rfl, Nat.le_of_ble_eq_true rfl⟩) hS hA hAL (fun u_3 H locs hw hP _ _ hS => ?_)
    subst hw
    have hP : va_P (dC, dI) vwCl (kw cI cJ cR d ar nb ga ha oa lg tm lf wr (va_up G j (x0, 0, 0, 0, x4, x5, x6))) _ := hP
    refine lv_goto (tgt := 51) hx hb d_G_putOut_35 (by decide) ?_
    exact W.vret hx hb hr (fun t ht hW => ⟨⟨(lg, tm, lf, wr, (va_up G j (x0, 0, 0, 0, x4, x5, x6))), rfl, by first | (simp only [kg_out, kg_rid, kg_clear, kg_mix, if_pos c_1]; done) | (simp [kg_out, kg_rid, kg_clear, kg_mix, c_1]; done) | (rw [kg_out, if_pos (show (kg_rid p0 (x0, x1, x2, x3, x4, x5, x6)).2.2.1 = 0 from c_1)]; rfl), by show va_P _ _ _ t.heap; rw [ht]; exact hP⟩, hS.F ht⟩) hS.2.2 d_G_putOut_51
set_option maxHeartbeats 4000000 in
set_option maxRecDepth 100000 in
theorem c_G_settle (l : Launch) {dC : Nat → ClassId} {dI : Nat → Nat → Nat} {cI cJ cR : ClassId} {d ar nb : Nat} {ga ha oa : Nat → Nat} (hnd : (kad d ar nb ga ha oa).Nodup) (lg tm lf wr : Int32) (G : Nat → kGV) {j : Nat} (hj : j < 8) (x0 x1 x2 x3 x4 : Int32) (x5 : Nat → Int32) (x6 : Nat → Int64) (p0 : Int32) (sz : Nat) : Met l y_G_settle w_G_settle ({ frames := 1, cells := 0, slots := 0, locals := 30 }) (kPre (dC, dI) vwCl (kty cI cJ cR) [.ref (ga j), .int p0] sz (kw cI cJ cR d ar nb ga ha oa lg tm lf wr (va_up G j (x0, x1, x2, x3, x4, x5, x6)))) (va_Qv (fun u : kDV => u = (lg, tm, lf, wr, va_up G j (kg_settle p0 (x0, x1, x2, x3, x4, x5, x6)))) (fun u t => va_P (dC, dI) vwCl (kwv cI cJ cR d ar nb ga ha oa u) t.heap) (kA (kad d ar nb ga ha oa) sz)) 0 0 (kA (kad d ar nb ga ha oa) sz) := by
  refine Met.ofW (cc := b_G_settle) (maxL := 2) (ret := none) (by decide) rfl ?_
  intro p e s m args below meth c s₁ B hml hv
  obtain ⟨rfl, hsz, hP, hK⟩ := hv
  have hx := B.exec
  have hb := B.bytes
  have hr := B.returns
  have hts := atoms_spec (ws := w_G_settle) B.pre
  have hw := fun (w : Cond) (h : w ∈ kb_B) => hts w (List.mem_cons_of_mem _ h)
  have hown : s.vm.findClass R_G = some m.cls := findClass_of_methodNamed B.named
  have hlocks := B.notSynchronized
  subst hsz
  generalize hAe : kA (kad d ar nb ga ha oa) s.heap.size = A
  have hA : ∀ q : Nat, s.heap.size ≤ q → A q := fun q h => by rw [← hAe]; exact Or.inr h
  have hAL : ∀ q ∈ (kad d ar nb ga ha oa), A q := fun q h => by rw [← hAe]; exact Or.inl h
  have hS : va_S A s.heap s.heap [] := va_S.rf
  have hl := lv_entry ([.ref (ga j), .int p0]) (n := 2) (Nat.le_of_ble_eq_true rfl)
  rw [lg_entry_eq]
  generalize (lg_sl ([.ref (ga j), .int p0]) ++ List.replicate (2 - (lg_sl ([.ref (ga j), .int p0])).length) Slot.unset).toArray = ls at hl ⊢
  have hl : lv_has ls 2 [(0, .ref (ga j)), (1, .int p0)] := hl
  refine lv_aload_n hx hb d_G_settle_0 rfl (lv_at hl 0 rfl) ?_
  refine lv_dup hx hb d_G_settle_1 rfl ?_
  refine va_get (D := (dC, dI)) (ci := 2) (v := .int x0) (C := R_G) (T := F_G) (N := 7) hx hb hw i_G hown hK hP (3 * j + 3) (kw_gG hj) rfl 0 (by decide) (hw _ kb_53) (fun _ h9 => h9) rfl d_G_settle_2 ?_
  refine lv_iconst (v := 1) hx hb d_G_settle_5 (by decide) ?_
  refine lv_iadd hx hb d_G_settle_6 ?_
  refine va_put (D := (dC, dI)) (ci := 2) (v := .int (x0 + (1 : Int32))) (ty := .int) (C := R_G) (T := F_G) (N := 7) hx hb hw i_G t_G t_G_ok n_G hown hK hP (kw_D hnd hAL) hS (3 * j + 3) (kw_gG hj) rfl 0 (by decide) (hw _ kb_53) (fun _ h9 => h9) rfl (by decide +kernel) rfl rfl (Nat.le_of_ble_eq_true rfl) d_G_settle_7 (fun H locs hP _ hS => ?_)
  have hP : va_P (dC, dI) vwCl (kw cI cJ cR d ar nb ga ha oa lg tm lf wr (va_up G j (x0 + (1 : Int32), x1, x2, x3, x4, x5, x6))) H := by rw [← kw_sG hj]; exact hP
  refine lv_aload_n hx hb d_G_settle_10 rfl (lv_at hl 0 rfl) ?_
  refine lv_iconst (v := 2) hx hb d_G_settle_11 (by decide) ?_
  refine va_put (D := (dC, dI)) (ci := 2) (v := .int 2) (ty := .int) (C := R_G) (T := F_G) (N := 7) hx hb hw i_G t_G t_G_ok n_G hown hK hP (kw_D hnd hAL) hS (3 * j + 3) (kw_gG hj) rfl 1 (by decide) (hw _ kb_54) (fun _ h9 => h9) rfl (by decide +kernel) rfl rfl (Nat.le_of_ble_eq_true rfl) d_G_settle_12 (fun H locs hP _ hS => ?_)
  have hP : va_P (dC, dI) vwCl (kw cI cJ cR d ar nb ga ha oa lg tm lf wr (va_up G j (x0 + (1 : Int32), 2, x2, x3, x4, x5, x6))) H := by rw [← kw_sG hj]; exact hP
  refine lv_aload_n hx hb d_G_settle_15 rfl (lv_at hl 0 rfl) ?_
  refine lv_aload_n hx hb d_G_settle_16 rfl (lv_at hl 0 rfl) ?_
  refine va_get (D := (dC, dI)) (ci := 2) (v := .int x3) (C := R_G) (T := F_G) (N := 7) hx hb hw i_G hown hK hP (3 * j + 3) (kw_gG hj) rfl 3 (by decide) (hw _ kb_58) (fun _ h9 => h9) rfl d_G_settle_17 ?_
  refine va_put (D := (dC, dI)) (ci := 2) (v := .int x3) (ty := .int) (C := R_G) (T := F_G) (N := 7) hx hb hw i_G t_G t_G_ok n_G hown hK hP (kw_D hnd hAL) hS (3 * j + 3) (kw_gG hj) rfl 2 (by decide) (hw _ kb_56) (fun _ h9 => h9) rfl (by decide +kernel) rfl rfl (Nat.le_of_ble_eq_true rfl) d_G_settle_20 (fun H locs hP _ hS => ?_)
  have hP : va_P (dC, dI) vwCl (kw cI cJ cR d ar nb ga ha oa lg tm lf wr (va_up G j (x0 + (1 : Int32), 2, x3, x3, x4, x5, x6))) H := by rw [← kw_sG hj]; exact hP
  refine lv_aload_n hx hb d_G_settle_23 rfl (lv_at hl 0 rfl) ?_
  refine va_get (D := (dC, dI)) (ci := 2) (v := .ref (ha j)) (C := R_G) (T := F_G) (N := 7) hx hb hw i_G hown hK hP (3 * j + 3) (kw_gG hj) rfl 5 (by decide) (hw _ kb_61) (fun _ h9 => h9) rfl d_G_settle_24 ?_
  refine lv_iload_n hx hb d_G_settle_27 rfl (lv_at hl 1 rfl) ?_
  have hP1 := hP.sub (ws' := [(ha j, .inl (cI, 8, .inl x5))]) [(3 * j + 4)] (by simp only [List.filterMap_cons, List.filterMap_nil, kw_gH hj])
  refine kc_v (σ := Unit) (Wd := fun _ => [(ha j, .inl (cI, 8, .inl (fun _ => p0)))]) (L := [ha j]) (va_runS (As := [.ref (ha j), .int p0]) (rest := []) ⟨hx, hb, hml, hown, hw⟩ (c_J_fillI l (kty cI cJ cR) 0 rfl _ 8 _ _ (by decide) _) (va_cwS 2 hw (kb_S kb_220 kb_221 kb_5 kb_222) rfl rfl rfl (by decide +kernel) ⟨Nat.le_of_ble_eq_true rfl, Nat.le_of_ble_eq_true rfl⟩) (kPS hP1 hK) rfl rfl hl.1 rfl (lv_room (Nat.le_of_ble_eq_true rfl)) d_G_settle_28 ⟨Nat.le_of_ble_eq_true rfl, Nat.le_of_ble_eq_true rfl⟩) hS hA (fun q h => hAL q (kw_inH hj q h)) (fun u_1 H locs _ hP1 _ ho hS => ?_)
  have hP := kl_one hP (by rw [kw_ad]; exact hnd) (kw_gH hj) hP1 ho
  have hP : va_P (dC, dI) vwCl (kw cI cJ cR d ar nb ga ha oa lg tm lf wr (va_up G j (x0 + (1 : Int32), 2, x3, x3, x4, fun _ => p0, x6))) H := by rw [← kw_sH hj]; exact hP
  exact W.vret hx hb hr (fun t ht hW => ⟨⟨(lg, tm, lf, wr, (va_up G j (x0 + (1 : Int32), 2, x3, x3, x4, fun _ => p0, x6))), rfl, by first | (simp only [kg_settle]; done) | (simp [kg_settle]; done), by show va_P _ _ _ t.heap; rw [ht]; exact hP⟩, hS.F ht⟩) hS.2.2 d_G_settle_31
set_option maxHeartbeats 4000000 in
set_option maxRecDepth 100000 in
theorem c_G_finishMixing (l : Launch) {dC : Nat → ClassId} {dI : Nat → Nat → Nat} {cI cJ cR : ClassId} {d ar nb : Nat} {ga ha oa : Nat → Nat} (hnd : (kad d ar nb ga ha oa).Nodup) (lg tm lf wr : Int32) (G : Nat → kGV) {j : Nat} (hj : j < 8) (x0 x1 x2 x3 x4 : Int32) (x5 : Nat → Int32) (x6 : Nat → Int64) (p0 : Int32) (sz : Nat) : Met l y_G_finishMixing w_G_finishMixing ({ frames := 2, cells := 0, slots := 0, locals := 60 }) (kPre (dC, dI) vwCl (kty cI cJ cR) [.ref (ga j), .int p0, .ref nb] sz (kw cI cJ cR d ar nb ga ha oa lg tm lf wr (va_up G j (x0, x1, x2, x3, x4, x5, x6)))) (va_Qv (fun u : kDV => u = (lg, tm, (kg_fin p0 lf wr (x0, x1, x2, x3, x4, x5, x6)).2.1, (kg_fin p0 lf wr (x0, x1, x2, x3, x4, x5, x6)).2.2, va_up G j (kg_fin p0 lf wr (x0, x1, x2, x3, x4, x5, x6)).1)) (fun u t => va_P (dC, dI) vwCl (kwv cI cJ cR d ar nb ga ha oa u) t.heap) (kA (kad d ar nb ga ha oa) sz)) 0 0 (kA (kad d ar nb ga ha oa) sz) := by
  refine Met.ofW (cc := b_G_finishMixing) (maxL := 3) (ret := none) (by decide) rfl ?_
  intro p e s m args below meth c s₁ B hml hv
  obtain ⟨rfl, hsz, hP, hK⟩ := hv
  have hx := B.exec
  have hb := B.bytes
  have hr := B.returns
  have hts := atoms_spec (ws := w_G_finishMixing) B.pre
  have hw := fun (w : Cond) (h : w ∈ kb_B) => hts w (List.mem_cons_of_mem _ h)
  have hown : s.vm.findClass R_G = some m.cls := findClass_of_methodNamed B.named
  have hlocks := B.notSynchronized
  subst hsz
  generalize hAe : kA (kad d ar nb ga ha oa) s.heap.size = A
  have hA : ∀ q : Nat, s.heap.size ≤ q → A q := fun q h => by rw [← hAe]; exact Or.inr h
  have hAL : ∀ q ∈ (kad d ar nb ga ha oa), A q := fun q h => by rw [← hAe]; exact Or.inl h
  have hS : va_S A s.heap s.heap [] := va_S.rf
  have hl := lv_entry ([.ref (ga j), .int p0, .ref nb]) (n := 3) (Nat.le_of_ble_eq_true rfl)
  rw [lg_entry_eq]
  generalize (lg_sl ([.ref (ga j), .int p0, .ref nb]) ++ List.replicate (3 - (lg_sl ([.ref (ga j), .int p0, .ref nb])).length) Slot.unset).toArray = ls at hl ⊢
  have hl : lv_has ls 3 [(0, .ref (ga j)), (1, .int p0), (2, .ref nb)] := hl
  refine lv_aload_n hx hb d_G_finishMixing_0 rfl (lv_at hl 0 rfl) ?_
  refine va_get (D := (dC, dI)) (ci := 2) (v := .int x1) (C := R_G) (T := F_G) (N := 7) hx hb hw i_G hown hK hP (3 * j + 3) (kw_gG hj) rfl 1 (by decide) (hw _ kb_54) (fun _ h9 => h9) rfl d_G_finishMixing_1 ?_
  refine lv_iconst (v := 1) hx hb d_G_finishMixing_4 (by decide) ?_
  refine lv_icmp_ne (tgt := 27) hx hb d_G_finishMixing_5 (by decide) (fun c_1 => ?_) (fun c_1 => ?_)
  · exact W.vret hx hb hr (fun t ht hW => ⟨⟨(lg, tm, lf, wr, (va_up G j (x0, x1, x2, x3, x4, x5, x6))), rfl, by first | (simp only [kg_fin, kg_go, kg_clear, kg_settle, if_neg c_1]; done) | (simp [kg_fin, kg_go, kg_clear, kg_settle, c_1]; done), by show va_P _ _ _ t.heap; rw [ht]; exact hP⟩, hS.F ht⟩) hS.2.2 d_G_finishMixing_27
  · refine lv_aload_n hx hb d_G_finishMixing_8 rfl (lv_at hl 0 rfl) ?_
    refine va_get (D := (dC, dI)) (ci := 2) (v := .int x3) (C := R_G) (T := F_G) (N := 7) hx hb hw i_G hown hK hP (3 * j + 3) (kw_gG hj) rfl 3 (by decide) (hw _ kb_58) (fun _ h9 => h9) rfl d_G_finishMixing_9 ?_
    refine lv_aload_n hx hb d_G_finishMixing_12 rfl (lv_at hl 0 rfl) ?_
    refine va_get (D := (dC, dI)) (ci := 2) (v := .int x2) (C := R_G) (T := F_G) (N := 7) hx hb hw i_G hown hK hP (3 * j + 3) (kw_gG hj) rfl 2 (by decide) (hw _ kb_56) (fun _ h9 => h9) rfl d_G_finishMixing_13 ?_
    refine lv_icmp_eq (tgt := 28) hx hb d_G_finishMixing_16 (by decide) (fun c_2 => ?_) (fun c_2 => ?_)
    · refine lv_aload_n hx hb d_G_finishMixing_28 rfl (lv_at hl 0 rfl) ?_
      refine va_get (D := (dC, dI)) (ci := 2) (v := .int x3) (C := R_G) (T := F_G) (N := 7) hx hb hw i_G hown hK hP (3 * j + 3) (kw_gG hj) rfl 3 (by decide) (hw _ kb_58) (fun _ h9 => h9) rfl d_G_finishMixing_29 ?_
      refine lv_if_ne (tgt := 40) hx hb d_G_finishMixing_32 (by decide) (fun c_3 => ?_) (fun c_3 => ?_)
      · refine lv_aload_n hx hb d_G_finishMixing_40 rfl (lv_at hl 2 rfl) ?_
        refine kc_i (Wd := kwv cI cJ cR d ar nb ga ha oa) (va_runV (As := []) (rest := []) ⟨hx, hb, hml, hown, hw⟩ (c_N_write l hnd lg tm lf wr (va_up G j (x0, x1, x2, x3, x4, x5, x6)) _) (cwV 0 hw (kb_V kb_212 kb_213 kb_214 kb_3 kb_215) rfl rfl rfl (by decide +kernel) ⟨Nat.le_of_ble_eq_true rfl, Nat.le_of_ble_eq_true rfl⟩) (kPV (va_recv hK hP (ci := 1) (q0 := 2) rfl rfl) hP hK) rfl rfl hl.1 rfl (lv_room (Nat.le_of_ble_eq_true rfl)) d_G_finishMixing_41 ⟨Nat.le_of_ble_eq_true rfl, Nat.le_of_ble_eq_true rfl⟩) hS hA hAL (fun r_2 u_1 H locs hw hP _ _ hS => ?_)
        obtain ⟨rfl, rfl⟩ := hw
        generalize hq_3 : kn_write lf wr = z_3 at hP ⊢
        obtain ⟨r_3, lf_3, wr_3⟩ := z_3
        have hP : va_P (dC, dI) vwCl (kw cI cJ cR d ar nb ga ha oa lg tm lf_3 wr_3 (va_up G j (x0, x1, x2, x3, x4, x5, x6))) _ := hP
        refine lv_if_eq (tgt := 52) hx hb d_G_finishMixing_44 (by decide) (fun c_4 => ?_) (fun c_4 => ?_)
        · exact W.vret hx hb hr (fun t ht hW => ⟨⟨(lg, tm, lf_3, wr_3, (va_up G j (x0, x1, x2, x3, x4, x5, x6))), rfl, by first | (simp only [kg_fin, kg_go, kg_clear, kg_settle, if_pos c_1, if_pos c_2, if_neg c_3, hq_3, if_pos c_4]; done) | (simp [kg_fin, kg_go, kg_clear, kg_settle, c_1, c_2, c_3, hq_3, c_4]; done), by show va_P _ _ _ t.heap; rw [ht]; exact hP⟩, hS.F ht⟩) hS.2.2 d_G_finishMixing_52
        · refine lv_aload_n hx hb d_G_finishMixing_47 rfl (lv_at hl 0 rfl) ?_
          refine lv_iload_n hx hb d_G_finishMixing_48 rfl (lv_at hl 1 rfl) ?_
          refine kc_v (Wd := kwv cI cJ cR d ar nb ga ha oa) (va_runV (As := [.int p0]) (rest := []) ⟨hx, hb, hml, hown, hw⟩ (c_G_settle l hnd lg tm lf_3 wr_3 G hj x0 x1 x2 x3 x4 x5 x6 p0 _) (cwV 1 hw (kb_V kb_216 kb_217 kb_218 kb_4 kb_219) rfl rfl rfl (by decide +kernel) ⟨Nat.le_of_ble_eq_true rfl, Nat.le_of_ble_eq_true rfl⟩) (kPV (va_recv hK hP (ci := 2) (q0 := (3 * j + 3)) rfl (kw_gG hj)) hP hK) rfl rfl hl.1 rfl (lv_room (Nat.le_of_ble_eq_true rfl)) d_G_finishMixing_49 ⟨Nat.le_of_ble_eq_true rfl, Nat.le_of_ble_eq_true rfl⟩) hS hA hAL (fun u_4 H locs hw hP _ _ hS => ?_)
          subst hw
          have hP : va_P (dC, dI) vwCl (kw cI cJ cR d ar nb ga ha oa lg tm lf_3 wr_3 (va_up G j (x0 + 1, 2, x3, x3, x4, fun _ => p0, x6))) _ := hP
          exact W.vret hx hb hr (fun t ht hW => ⟨⟨(lg, tm, lf_3, wr_3, (va_up G j (x0 + 1, 2, x3, x3, x4, fun _ => p0, x6))), rfl, by first | (simp only [kg_fin, kg_go, kg_clear, kg_settle, if_pos c_1, if_pos c_2, if_neg c_3, hq_3, if_neg c_4]; done) | (simp [kg_fin, kg_go, kg_clear, kg_settle, c_1, c_2, c_3, hq_3, c_4]; done), by show va_P _ _ _ t.heap; rw [ht]; exact hP⟩, hS.F ht⟩) hS.2.2 d_G_finishMixing_52
      · refine lv_aload_n hx hb d_G_finishMixing_35 rfl (lv_at hl 0 rfl) ?_
        refine kc_v (Wd := kwv cI cJ cR d ar nb ga ha oa) (va_runV (As := []) (rest := []) ⟨hx, hb, hml, hown, hw⟩ (c_G_clear l hnd lg tm lf wr G hj x0 x1 x2 x3 x4 x5 x6 _) (cwV 0 hw (kb_V kb_211 kb_106 kb_107 kb_4 kb_108) rfl rfl rfl (by decide +kernel) ⟨Nat.le_of_ble_eq_true rfl, Nat.le_of_ble_eq_true rfl⟩) (kPV (va_recv hK hP (ci := 2) (q0 := (3 * j + 3)) rfl (kw_gG hj)) hP hK) rfl rfl hl.1 rfl (lv_room (Nat.le_of_ble_eq_true rfl)) d_G_finishMixing_36 ⟨Nat.le_of_ble_eq_true rfl, Nat.le_of_ble_eq_true rfl⟩) hS hA hAL (fun u_6 H locs hw hP _ _ hS => ?_)
        subst hw
        have hP : va_P (dC, dI) vwCl (kw cI cJ cR d ar nb ga ha oa lg tm lf wr (va_up G j (x0, 0, 0, 0, x4, x5, x6))) _ := hP
        exact W.vret hx hb hr (fun t ht hW => ⟨⟨(lg, tm, lf, wr, (va_up G j (x0, 0, 0, 0, x4, x5, x6))), rfl, by first | (simp only [kg_fin, kg_go, kg_clear, kg_settle, if_pos c_1, if_pos c_2, if_pos c_3]; done) | (simp [kg_fin, kg_go, kg_clear, kg_settle, c_1, c_2, c_3]; done), by show va_P _ _ _ t.heap; rw [ht]; exact hP⟩, hS.F ht⟩) hS.2.2 d_G_finishMixing_39
    · refine lv_iload_n hx hb d_G_finishMixing_19 rfl (lv_at hl 1 rfl) ?_
      refine lv_aload_n hx hb d_G_finishMixing_20 rfl (lv_at hl 0 rfl) ?_
      refine va_get (D := (dC, dI)) (ci := 2) (v := .int x4) (C := R_G) (T := F_G) (N := 7) hx hb hw i_G hown hK hP (3 * j + 3) (kw_gG hj) rfl 4 (by decide) (hw _ kb_60) (fun _ h9 => h9) rfl d_G_finishMixing_21 ?_
      refine lv_icmp_ge (tgt := 28) hx hb d_G_finishMixing_24 (by decide) (fun c_5 => ?_) (fun c_5 => ?_)
      · refine lv_aload_n hx hb d_G_finishMixing_28 rfl (lv_at hl 0 rfl) ?_
        refine va_get (D := (dC, dI)) (ci := 2) (v := .int x3) (C := R_G) (T := F_G) (N := 7) hx hb hw i_G hown hK hP (3 * j + 3) (kw_gG hj) rfl 3 (by decide) (hw _ kb_58) (fun _ h9 => h9) rfl d_G_finishMixing_29 ?_
        refine lv_if_ne (tgt := 40) hx hb d_G_finishMixing_32 (by decide) (fun c_6 => ?_) (fun c_6 => ?_)
        · refine lv_aload_n hx hb d_G_finishMixing_40 rfl (lv_at hl 2 rfl) ?_
          refine kc_i (Wd := kwv cI cJ cR d ar nb ga ha oa) (va_runV (As := []) (rest := []) ⟨hx, hb, hml, hown, hw⟩ (c_N_write l hnd lg tm lf wr (va_up G j (x0, x1, x2, x3, x4, x5, x6)) _) (cwV 0 hw (kb_V kb_212 kb_213 kb_214 kb_3 kb_215) rfl rfl rfl (by decide +kernel) ⟨Nat.le_of_ble_eq_true rfl, Nat.le_of_ble_eq_true rfl⟩) (kPV (va_recv hK hP (ci := 1) (q0 := 2) rfl rfl) hP hK) rfl rfl hl.1 rfl (lv_room (Nat.le_of_ble_eq_true rfl)) d_G_finishMixing_41 ⟨Nat.le_of_ble_eq_true rfl, Nat.le_of_ble_eq_true rfl⟩) hS hA hAL (fun r_9 u_8 H locs hw hP _ _ hS => ?_)
          obtain ⟨rfl, rfl⟩ := hw
          generalize hq_10 : kn_write lf wr = z_10 at hP ⊢
          obtain ⟨r_10, lf_10, wr_10⟩ := z_10
          have hP : va_P (dC, dI) vwCl (kw cI cJ cR d ar nb ga ha oa lg tm lf_10 wr_10 (va_up G j (x0, x1, x2, x3, x4, x5, x6))) _ := hP
          refine lv_if_eq (tgt := 52) hx hb d_G_finishMixing_44 (by decide) (fun c_7 => ?_) (fun c_7 => ?_)
          · exact W.vret hx hb hr (fun t ht hW => ⟨⟨(lg, tm, lf_10, wr_10, (va_up G j (x0, x1, x2, x3, x4, x5, x6))), rfl, by first | (simp only [kg_fin, kg_go, kg_clear, kg_settle, if_pos c_1, if_neg c_2, if_pos c_5, if_neg c_6, hq_10, if_pos c_7]; done) | (simp [kg_fin, kg_go, kg_clear, kg_settle, c_1, c_2, c_5, c_6, hq_10, c_7]; done), by show va_P _ _ _ t.heap; rw [ht]; exact hP⟩, hS.F ht⟩) hS.2.2 d_G_finishMixing_52
          · refine lv_aload_n hx hb d_G_finishMixing_47 rfl (lv_at hl 0 rfl) ?_
            refine lv_iload_n hx hb d_G_finishMixing_48 rfl (lv_at hl 1 rfl) ?_
            refine kc_v (Wd := kwv cI cJ cR d ar nb ga ha oa) (va_runV (As := [.int p0]) (rest := []) ⟨hx, hb, hml, hown, hw⟩ (c_G_settle l hnd lg tm lf_10 wr_10 G hj x0 x1 x2 x3 x4 x5 x6 p0 _) (cwV 1 hw (kb_V kb_216 kb_217 kb_218 kb_4 kb_219) rfl rfl rfl (by decide +kernel) ⟨Nat.le_of_ble_eq_true rfl, Nat.le_of_ble_eq_true rfl⟩) (kPV (va_recv hK hP (ci := 2) (q0 := (3 * j + 3)) rfl (kw_gG hj)) hP hK) rfl rfl hl.1 rfl (lv_room (Nat.le_of_ble_eq_true rfl)) d_G_finishMixing_49 ⟨Nat.le_of_ble_eq_true rfl, Nat.le_of_ble_eq_true rfl⟩) hS hA hAL (fun u_11 H locs hw hP _ _ hS => ?_)
            subst hw
            have hP : va_P (dC, dI) vwCl (kw cI cJ cR d ar nb ga ha oa lg tm lf_10 wr_10 (va_up G j (x0 + 1, 2, x3, x3, x4, fun _ => p0, x6))) _ := hP
            exact W.vret hx hb hr (fun t ht hW => ⟨⟨(lg, tm, lf_10, wr_10, (va_up G j (x0 + 1, 2, x3, x3, x4, fun _ => p0, x6))), rfl, by first | (simp only [kg_fin, kg_go, kg_clear, kg_settle, if_pos c_1, if_neg c_2, if_pos c_5, if_neg c_6, hq_10, if_neg c_7]; done) | (simp [kg_fin, kg_go, kg_clear, kg_settle, c_1, c_2, c_5, c_6, hq_10, c_7]; done), by show va_P _ _ _ t.heap; rw [ht]; exact hP⟩, hS.F ht⟩) hS.2.2 d_G_finishMixing_52
        · refine lv_aload_n hx hb d_G_finishMixing_35 rfl (lv_at hl 0 rfl) ?_
          refine kc_v (Wd := kwv cI cJ cR d ar nb ga ha oa) (va_runV (As := []) (rest := []) ⟨hx, hb, hml, hown, hw⟩ (c_G_clear l hnd lg tm lf wr G hj x0 x1 x2 x3 x4 x5 x6 _) (cwV 0 hw (kb_V kb_211 kb_106 kb_107 kb_4 kb_108) rfl rfl rfl (by decide +kernel) ⟨Nat.le_of_ble_eq_true rfl, Nat.le_of_ble_eq_true rfl⟩) (kPV (va_recv hK hP (ci := 2) (q0 := (3 * j + 3)) rfl (kw_gG hj)) hP hK) rfl rfl hl.1 rfl (lv_room (Nat.le_of_ble_eq_true rfl)) d_G_finishMixing_36 ⟨Nat.le_of_ble_eq_true rfl, Nat.le_of_ble_eq_true rfl⟩) hS hA hAL (fun u_13 H locs hw hP _ _ hS => ?_)
          subst hw
          have hP : va_P (dC, dI) vwCl (kw cI cJ cR d ar nb ga ha oa lg tm lf wr (va_up G j (x0, 0, 0, 0, x4, x5, x6))) _ := hP
          exact W.vret hx hb hr (fun t ht hW => ⟨⟨(lg, tm, lf, wr, (va_up G j (x0, 0, 0, 0, x4, x5, x6))), rfl, by first | (simp only [kg_fin, kg_go, kg_clear, kg_settle, if_pos c_1, if_neg c_2, if_pos c_5, if_pos c_6]; done) | (simp [kg_fin, kg_go, kg_clear, kg_settle, c_1, c_2, c_5, c_6]; done), by show va_P _ _ _ t.heap; rw [ht]; exact hP⟩, hS.F ht⟩) hS.2.2 d_G_finishMixing_39
      · exact W.vret hx hb hr (fun t ht hW => ⟨⟨(lg, tm, lf, wr, (va_up G j (x0, x1, x2, x3, x4, x5, x6))), rfl, by first | (simp only [kg_fin, kg_go, kg_clear, kg_settle, if_pos c_1, if_neg c_2, if_neg c_5]; done) | (simp [kg_fin, kg_go, kg_clear, kg_settle, c_1, c_2, c_5]; done), by show va_P _ _ _ t.heap; rw [ht]; exact hP⟩, hS.F ht⟩) hS.2.2 d_G_finishMixing_27
set_option maxHeartbeats 4000000 in
set_option maxRecDepth 100000 in
theorem c_G_ticksToLimit (l : Launch) {dC : Nat → ClassId} {dI : Nat → Nat → Nat} {cI cJ cR : ClassId} {d ar nb : Nat} {ga ha oa : Nat → Nat} (hnd : (kad d ar nb ga ha oa).Nodup) (lg tm lf wr : Int32) (G : Nat → kGV) {j : Nat} (hj : j < 8) (x0 x1 x2 x3 x4 : Int32) (x5 : Nat → Int32) (x6 : Nat → Int64) (p0 : Int32) (sz : Nat) : Met l y_G_ticksToLimit w_G_ticksToLimit ({ frames := 1, cells := 0, slots := 0, locals := 30 }) (kPre (dC, dI) vwCl (kty cI cJ cR) [.ref (ga j), .int p0] sz (kw cI cJ cR d ar nb ga ha oa lg tm lf wr (va_up G j (x0, x1, x2, x3, x4, x5, x6)))) (vp_Si (fun r => r = kg_lim p0 (x0, x1, x2, x3, x4, x5, x6))) 0 0 (fun _ => False) := by
  refine Met.ofW (cc := b_G_ticksToLimit) (maxL := 2) (ret := (some .int)) (by decide) rfl ?_
  intro p e s m args below meth c s₁ B hml hv
  obtain ⟨rfl, hsz, hP, hK⟩ := hv
  have hx := B.exec
  have hb := B.bytes
  have hr := B.returns
  have hts := atoms_spec (ws := w_G_ticksToLimit) B.pre
  have hw := fun (w : Cond) (h : w ∈ kb_B) => hts w (List.mem_cons_of_mem _ h)
  have hown : s.vm.findClass R_G = some m.cls := findClass_of_methodNamed B.named
  have hlocks := B.notSynchronized
  subst hsz
  have hl := lv_entry ([.ref (ga j), .int p0]) (n := 2) (Nat.le_of_ble_eq_true rfl)
  rw [lg_entry_eq]
  generalize (lg_sl ([.ref (ga j), .int p0]) ++ List.replicate (2 - (lg_sl ([.ref (ga j), .int p0])).length) Slot.unset).toArray = ls at hl ⊢
  have hl : lv_has ls 2 [(0, .ref (ga j)), (1, .int p0)] := hl
  refine lv_aload_n hx hb d_G_ticksToLimit_0 rfl (lv_at hl 0 rfl) ?_
  refine va_get (D := (dC, dI)) (ci := 2) (v := .int x1) (C := R_G) (T := F_G) (N := 7) hx hb hw i_G hown hK hP (3 * j + 3) (kw_gG hj) rfl 1 (by decide) (hw _ kb_54) (fun _ h9 => h9) rfl d_G_ticksToLimit_1 ?_
  refine lv_iconst (v := 1) hx hb d_G_ticksToLimit_4 (by decide) ?_
  refine lv_icmp_ne (tgt := 21) hx hb d_G_ticksToLimit_5 (by decide) (fun c_1 => ?_) (fun c_1 => ?_)
  · refine lv_iconst (v := 0) hx hb d_G_ticksToLimit_21 (by decide) ?_
    exact W.iret (v := 0) hx hb hr (fun t ht hW => ⟨_, rfl, by first | (simp only [kg_lim, if_neg c_1]; done) | (simp [kg_lim, c_1]; done), ht⟩) (fun q h => by cases h) d_G_ticksToLimit_22
  · refine lv_aload_n hx hb d_G_ticksToLimit_8 rfl (lv_at hl 0 rfl) ?_
    refine va_get (D := (dC, dI)) (ci := 2) (v := .int x4) (C := R_G) (T := F_G) (N := 7) hx hb hw i_G hown hK hP (3 * j + 3) (kw_gG hj) rfl 4 (by decide) (hw _ kb_60) (fun _ h9 => h9) rfl d_G_ticksToLimit_9 ?_
    refine lv_iload_n hx hb d_G_ticksToLimit_12 rfl (lv_at hl 1 rfl) ?_
    refine lv_isub hx hb d_G_ticksToLimit_13 ?_
    refine lv_iconst (v := 0) hx hb d_G_ticksToLimit_14 (by decide) ?_
    refine va_mmax hx hb (hml.trans hl.1.symm) hown (hw _ kb_291) (hw _ kb_21) (hw _ kb_2) (hw _ kb_22) (Nat.le_of_ble_eq_true rfl) (Nat.le_of_ble_eq_true rfl) (Nat.le_of_ble_eq_true rfl) (Nat.le_of_ble_eq_true rfl) d_G_ticksToLimit_15 ?_
    refine lv_goto (tgt := 22) hx hb d_G_ticksToLimit_18 (by decide) ?_
    exact W.iret (v := (if (x4 - p0) < (0 : Int32) then (0 : Int32) else (x4 - p0))) hx hb hr (fun t ht hW => ⟨_, rfl, by first | (simp only [kg_lim, if_pos c_1]; done) | (simp [kg_lim, c_1]; done), ht⟩) (fun q h => by cases h) d_G_ticksToLimit_22
set_option maxHeartbeats 4000000 in
set_option maxRecDepth 100000 in
theorem c_G_gives (l : Launch) {dC : Nat → ClassId} {dI : Nat → Nat → Nat} {cI cJ cR : ClassId} {d ar nb : Nat} {ga ha oa : Nat → Nat} (hnd : (kad d ar nb ga ha oa).Nodup) (lg tm lf wr : Int32) (G : Nat → kGV) {j : Nat} (hj : j < 8) (x0 x1 x2 x3 x4 : Int32) (x5 : Nat → Int32) (x6 : Nat → Int64) (p0 : Int32) (p1 : Int32) (sz : Nat) : Met l y_G_gives w_G_gives ({ frames := 1, cells := 0, slots := 0, locals := 30 }) (kPre (dC, dI) vwCl (kty cI cJ cR) [.ref (ga j), .int p0, .int p1] sz (kw cI cJ cR d ar nb ga ha oa lg tm lf wr (va_up G j (x0, x1, x2, x3, x4, x5, x6)))) (vp_Si (fun r => r = kg_gives p0 p1 (x0, x1, x2, x3, x4, x5, x6))) 0 0 (fun _ => False) := by
  refine Met.ofW (cc := b_G_gives) (maxL := 5) (ret := (some .boolean)) (by decide) rfl ?_
  intro p e s m args below meth c s₁ B hml hv
  obtain ⟨rfl, hsz, hP, hK⟩ := hv
  have hx := B.exec
  have hb := B.bytes
  have hr := B.returns
  have hts := atoms_spec (ws := w_G_gives) B.pre
  have hw := fun (w : Cond) (h : w ∈ kb_B) => hts w (List.mem_cons_of_mem _ h)
  have hown : s.vm.findClass R_G = some m.cls := findClass_of_methodNamed B.named
  have hlocks := B.notSynchronized
  subst hsz
  have hl := lv_entry ([.ref (ga j), .int p0, .int p1]) (n := 5) (Nat.le_of_ble_eq_true rfl)
  rw [lg_entry_eq]
  generalize (lg_sl ([.ref (ga j), .int p0, .int p1]) ++ List.replicate (5 - (lg_sl ([.ref (ga j), .int p0, .int p1])).length) Slot.unset).toArray = ls at hl ⊢
  have hl : lv_has ls 5 [(0, .ref (ga j)), (1, .int p0), (2, .int p1)] := hl
  refine lv_aload_n hx hb d_G_gives_0 rfl (lv_at hl 0 rfl) ?_
  refine va_get (D := (dC, dI)) (ci := 2) (v := .int x2) (C := R_G) (T := F_G) (N := 7) hx hb hw i_G hown hK hP (3 * j + 3) (kw_gG hj) rfl 2 (by decide) (hw _ kb_56) (fun _ h9 => h9) rfl d_G_gives_1 ?_
  refine vp_callSi (W.runS (As := [.int x2]) (rest := []) ⟨hx, hb, hml, hown, hw⟩ (c_J_bitCount l x2) (va_cwS 1 hw (kb_S kb_271 kb_100 kb_11 kb_101) rfl rfl rfl (by decide +kernel) ⟨Nat.le_of_ble_eq_true rfl, Nat.le_of_ble_eq_true rfl⟩) preEq rfl rfl hl.1 rfl (lv_room (Nat.le_of_ble_eq_true rfl)) d_G_gives_4 ⟨Nat.le_of_ble_eq_true rfl, Nat.le_of_ble_eq_true rfl⟩) (fun r_1 er_1 => ?_)
  subst er_1
  refine lv_istore_n (lv' := [(3, .int (k_bc x2)), (0, .ref (ga j)), (1, .int p0), (2, .int p1)]) hx hb d_G_gives_7 rfl hl (by decide) rfl (fun ls hl => ?_)
  refine lv_aload_n hx hb d_G_gives_8 rfl (lv_at hl 1 rfl) ?_
  refine va_get (D := (dC, dI)) (ci := 2) (v := .int x1) (C := R_G) (T := F_G) (N := 7) hx hb hw i_G hown hK hP (3 * j + 3) (kw_gG hj) rfl 1 (by decide) (hw _ kb_54) (fun _ h9 => h9) rfl d_G_gives_9 ?_
  refine lv_iconst (v := 2) hx hb d_G_gives_12 (by decide) ?_
  refine lv_icmp_ne (tgt := 28) hx hb d_G_gives_13 (by decide) (fun c_1 => ?_) (fun c_1 => ?_)
  · refine lv_iconst (v := 0) hx hb d_G_gives_28 (by decide) ?_
    exact W.zret (v := 0) hx hb hr (by decide) (fun t ht hW => ⟨_, rfl, by first | (simp only [kg_gives, if_neg c_1]; done) | (simp [kg_gives, c_1]; done), ht⟩) (fun q h => by cases h) d_G_gives_29
  · refine lv_aload_n hx hb d_G_gives_16 rfl (lv_at hl 1 rfl) ?_
    refine lv_iload_n hx hb d_G_gives_17 rfl (lv_at hl 3 rfl) ?_
    refine vp_callSi (W.runV (As := [.int p1]) (rest := []) ⟨hx, hb, hml, hown, hw⟩ (c_G_has l hnd lg tm lf wr G hj x0 x1 x2 x3 x4 x5 x6 p1 _) (cwV 1 hw (kb_V kb_266 kb_231 kb_232 kb_4 kb_233) rfl rfl rfl (by decide +kernel) ⟨Nat.le_of_ble_eq_true rfl, Nat.le_of_ble_eq_true rfl⟩) (kPV (va_recv hK hP (ci := 2) (q0 := (3 * j + 3)) rfl (kw_gG hj)) hP hK) rfl rfl hl.1 rfl (lv_room (Nat.le_of_ble_eq_true rfl)) d_G_gives_18 ⟨Nat.le_of_ble_eq_true rfl, Nat.le_of_ble_eq_true rfl⟩) (fun r_2 er_2 => ?_)
    subst er_2
    refine lv_if_eq (tgt := 28) hx hb d_G_gives_21 (by decide) (fun c_2 => ?_) (fun c_2 => ?_)
    · refine lv_iconst (v := 0) hx hb d_G_gives_28 (by decide) ?_
      exact W.zret (v := 0) hx hb hr (by decide) (fun t ht hW => ⟨_, rfl, by first | (simp only [kg_gives, if_pos c_1, if_pos c_2]; done) | (simp [kg_gives, c_1, c_2]; done), ht⟩) (fun q h => by cases h) d_G_gives_29
    · refine lv_iload_n hx hb d_G_gives_24 rfl (lv_at hl 0 rfl) ?_
      refine lv_if_ne (tgt := 30) hx hb d_G_gives_25 (by decide) (fun c_3 => ?_) (fun c_3 => ?_)
      · refine lv_aload_n hx hb d_G_gives_30 rfl (lv_at hl 1 rfl) ?_
        refine va_get (D := (dC, dI)) (ci := 2) (v := .int x2) (C := R_G) (T := F_G) (N := 7) hx hb hw i_G hown hK hP (3 * j + 3) (kw_gG hj) rfl 2 (by decide) (hw _ kb_56) (fun _ h9 => h9) rfl d_G_gives_31 ?_
        refine lv_iconst (v := 1) hx hb d_G_gives_34 (by decide) ?_
        refine lv_iload_n hx hb d_G_gives_35 rfl (lv_at hl 3 rfl) ?_
        refine lv_ishl hx hb d_G_gives_36 ?_
        refine lv_iconst (v := 1) hx hb d_G_gives_37 (by decide) ?_
        refine lv_isub hx hb d_G_gives_38 ?_
        refine lv_iand hx hb d_G_gives_39 ?_
        refine vp_callSi (W.runS (As := [.int (x2 &&& (((1 : Int32) <<< (p1 &&& 31)) - (1 : Int32)))]) (rest := []) ⟨hx, hb, hml, hown, hw⟩ (c_J_bitCount l (x2 &&& (((1 : Int32) <<< (p1 &&& 31)) - (1 : Int32)))) (va_cwS 1 hw (kb_S kb_271 kb_100 kb_11 kb_101) rfl rfl rfl (by decide +kernel) ⟨Nat.le_of_ble_eq_true rfl, Nat.le_of_ble_eq_true rfl⟩) preEq rfl rfl hl.1 rfl (lv_room (Nat.le_of_ble_eq_true rfl)) d_G_gives_40 ⟨Nat.le_of_ble_eq_true rfl, Nat.le_of_ble_eq_true rfl⟩) (fun r_3 er_3 => ?_)
        subst er_3
        refine lv_istore (lv' := [(4, .int (k_bc (x2 &&& (((1 : Int32) <<< (p1 &&& 31)) - (1 : Int32))))), (3, .int (k_bc x2)), (0, .ref (ga j)), (1, .int p0), (2, .int p1)]) hx hb d_G_gives_43 hl (by decide) rfl (fun ls hl => ?_)
        refine lv_iload_n hx hb d_G_gives_45 rfl (lv_at hl 3 rfl) ?_
        refine lv_iload_n hx hb d_G_gives_46 rfl (lv_at hl 1 rfl) ?_
        refine lv_irem hx hb d_G_gives_47 c_3 ?_
        refine lv_iload hx hb d_G_gives_48 (lv_at hl 0 rfl) ?_
        refine lv_icmp_ne (tgt := 57) hx hb d_G_gives_50 (by decide) (fun c_4 => ?_) (fun c_4 => ?_)
        · refine lv_iconst (v := 0) hx hb d_G_gives_57 (by decide) ?_
          exact W.zret (v := 0) hx hb hr (by decide) (fun t ht hW => ⟨_, rfl, by first | (simp only [kg_gives, if_pos c_1, if_neg c_2, if_neg c_3, if_neg c_4]; done) | (simp [kg_gives, c_1, c_2, c_3, c_4]; done), ht⟩) (fun q h => by cases h) d_G_gives_58
        · refine lv_iconst (v := 1) hx hb d_G_gives_53 (by decide) ?_
          refine lv_goto (tgt := 58) hx hb d_G_gives_54 (by decide) ?_
          exact W.zret (v := 1) hx hb hr (by decide) (fun t ht hW => ⟨_, rfl, by first | (simp only [kg_gives, if_pos c_1, if_neg c_2, if_neg c_3, if_pos c_4]; done) | (simp [kg_gives, c_1, c_2, c_3, c_4]; done), ht⟩) (fun q h => by cases h) d_G_gives_58
      · refine lv_iconst (v := 0) hx hb d_G_gives_28 (by decide) ?_
        exact W.zret (v := 0) hx hb hr (by decide) (fun t ht hW => ⟨_, rfl, by first | (simp only [kg_gives, if_pos c_1, if_neg c_2, if_pos c_3]; done) | (simp [kg_gives, c_1, c_2, c_3]; done), ht⟩) (fun q h => by cases h) d_G_gives_29
set_option maxHeartbeats 4000000 in
set_option maxRecDepth 100000 in
theorem c_G_refusalOf (l : Launch) {dC : Nat → ClassId} {dI : Nat → Nat → Nat} {cI cJ cR : ClassId} {d ar nb : Nat} {ga ha oa : Nat → Nat} (hnd : (kad d ar nb ga ha oa).Nodup) (lg tm lf wr : Int32) (G : Nat → kGV) {j : Nat} (hj : j < 8) (x0 x1 x2 x3 x4 : Int32) (x5 : Nat → Int32) (x6 : Nat → Int64) (p0 : Int32) (p1 : Int32) (p2 : Int32) (sz : Nat) : Met l y_G_refusalOf w_G_refusalOf ({ frames := 2, cells := 0, slots := 0, locals := 60 }) (kPre (dC, dI) vwCl (kty cI cJ cR) [.ref (ga j), .int p0, .int p1, .int p2] sz (kw cI cJ cR d ar nb ga ha oa lg tm lf wr (va_up G j (x0, x1, x2, x3, x4, x5, x6)))) (vp_Si (fun r => r = kg_ref p0 p1 p2 (x0, x1, x2, x3, x4, x5, x6))) 0 0 (fun _ => False) := by
  refine Met.ofW (cc := b_G_refusalOf) (maxL := 4) (ret := (some .int)) (by decide) rfl ?_
  intro p e s m args below meth c s₁ B hml hv
  obtain ⟨rfl, hsz, hP, hK⟩ := hv
  have hx := B.exec
  have hb := B.bytes
  have hr := B.returns
  have hts := atoms_spec (ws := w_G_refusalOf) B.pre
  have hw := fun (w : Cond) (h : w ∈ kb_B) => hts w (List.mem_cons_of_mem _ h)
  have hown : s.vm.findClass R_G = some m.cls := findClass_of_methodNamed B.named
  have hlocks := B.notSynchronized
  subst hsz
  have hl := lv_entry ([.ref (ga j), .int p0, .int p1, .int p2]) (n := 4) (Nat.le_of_ble_eq_true rfl)
  rw [lg_entry_eq]
  generalize (lg_sl ([.ref (ga j), .int p0, .int p1, .int p2]) ++ List.replicate (4 - (lg_sl ([.ref (ga j), .int p0, .int p1, .int p2])).length) Slot.unset).toArray = ls at hl ⊢
  have hl : lv_has ls 4 [(0, .ref (ga j)), (1, .int p0), (2, .int p1), (3, .int p2)] := hl
  refine lv_aload_n hx hb d_G_refusalOf_0 rfl (lv_at hl 0 rfl) ?_
  refine lv_iload_n hx hb d_G_refusalOf_1 rfl (lv_at hl 1 rfl) ?_
  refine vp_callSi (W.runV (As := [.int p0]) (rest := []) ⟨hx, hb, hml, hown, hw⟩ (c_G_has l hnd lg tm lf wr G hj x0 x1 x2 x3 x4 x5 x6 p0 _) (cwV 1 hw (kb_V kb_266 kb_231 kb_232 kb_4 kb_233) rfl rfl rfl (by decide +kernel) ⟨Nat.le_of_ble_eq_true rfl, Nat.le_of_ble_eq_true rfl⟩) (kPV (va_recv hK hP (ci := 2) (q0 := (3 * j + 3)) rfl (kw_gG hj)) hP hK) rfl rfl hl.1 rfl (lv_room (Nat.le_of_ble_eq_true rfl)) d_G_refusalOf_2 ⟨Nat.le_of_ble_eq_true rfl, Nat.le_of_ble_eq_true rfl⟩) (fun r_1 er_1 => ?_)
  subst er_1
  refine lv_if_ne (tgt := 11) hx hb d_G_refusalOf_5 (by decide) (fun c_1 => ?_) (fun c_1 => ?_)
  · refine lv_iload_n hx hb d_G_refusalOf_11 rfl (lv_at hl 2 rfl) ?_
    refine lv_aload_n hx hb d_G_refusalOf_12 rfl (lv_at hl 0 rfl) ?_
    refine va_get (D := (dC, dI)) (ci := 2) (v := .int x0) (C := R_G) (T := F_G) (N := 7) hx hb hw i_G hown hK hP (3 * j + 3) (kw_gG hj) rfl 0 (by decide) (hw _ kb_53) (fun _ h9 => h9) rfl d_G_refusalOf_13 ?_
    refine lv_icmp_eq (tgt := 22) hx hb d_G_refusalOf_16 (by decide) (fun c_2 => ?_) (fun c_2 => ?_)
    · refine lv_aload_n hx hb d_G_refusalOf_22 rfl (lv_at hl 0 rfl) ?_
      refine va_get (D := (dC, dI)) (ci := 2) (v := .int x1) (C := R_G) (T := F_G) (N := 7) hx hb hw i_G hown hK hP (3 * j + 3) (kw_gG hj) rfl 1 (by decide) (hw _ kb_54) (fun _ h9 => h9) rfl d_G_refusalOf_23 ?_
      refine lv_iconst (v := 2) hx hb d_G_refusalOf_26 (by decide) ?_
      refine lv_icmp_eq (tgt := 33) hx hb d_G_refusalOf_27 (by decide) (fun c_3 => ?_) (fun c_3 => ?_)
      · refine lv_aload_n hx hb d_G_refusalOf_33 rfl (lv_at hl 0 rfl) ?_
        refine lv_iload_n hx hb d_G_refusalOf_34 rfl (lv_at hl 3 rfl) ?_
        refine lv_iload_n hx hb d_G_refusalOf_35 rfl (lv_at hl 1 rfl) ?_
        refine vp_callSi (W.runV (As := [.int p2, .int p0]) (rest := []) ⟨hx, hb, hml, hown, hw⟩ (c_G_gives l hnd lg tm lf wr G hj x0 x1 x2 x3 x4 x5 x6 p2 p0 _) (cwV 2 hw (kb_V kb_267 kb_268 kb_269 kb_4 kb_270) rfl rfl rfl (by decide +kernel) ⟨Nat.le_of_ble_eq_true rfl, Nat.le_of_ble_eq_true rfl⟩) (kPV (va_recv hK hP (ci := 2) (q0 := (3 * j + 3)) rfl (kw_gG hj)) hP hK) rfl rfl hl.1 rfl (lv_room (Nat.le_of_ble_eq_true rfl)) d_G_refusalOf_36 ⟨Nat.le_of_ble_eq_true rfl, Nat.le_of_ble_eq_true rfl⟩) (fun r_2 er_2 => ?_)
        subst er_2
        refine lv_if_eq (tgt := 46) hx hb d_G_refusalOf_39 (by decide) (fun c_4 => ?_) (fun c_4 => ?_)
        · refine lv_bipush (v := (-11)) hx hb d_G_refusalOf_46 (by decide) ?_
          exact W.iret (v := (-11)) hx hb hr (fun t ht hW => ⟨_, rfl, by first | (simp only [kg_ref, if_neg c_1, if_pos c_2, if_pos c_3, if_pos c_4]; done) | (simp [kg_ref, c_1, c_2, c_3, c_4]; done), ht⟩) (fun q h => by cases h) d_G_refusalOf_48
        · refine lv_iconst (v := 0) hx hb d_G_refusalOf_42 (by decide) ?_
          refine lv_goto (tgt := 48) hx hb d_G_refusalOf_43 (by decide) ?_
          exact W.iret (v := 0) hx hb hr (fun t ht hW => ⟨_, rfl, by first | (simp only [kg_ref, if_neg c_1, if_pos c_2, if_pos c_3, if_neg c_4]; done) | (simp [kg_ref, c_1, c_2, c_3, c_4]; done), ht⟩) (fun q h => by cases h) d_G_refusalOf_48
      · refine lv_bipush (v := (-10)) hx hb d_G_refusalOf_30 (by decide) ?_
        exact W.iret (v := (-10)) hx hb hr (fun t ht hW => ⟨_, rfl, by first | (simp only [kg_ref, if_neg c_1, if_pos c_2, if_neg c_3]; done) | (simp [kg_ref, c_1, c_2, c_3]; done), ht⟩) (fun q h => by cases h) d_G_refusalOf_32
    · refine lv_bipush (v := (-9)) hx hb d_G_refusalOf_19 (by decide) ?_
      exact W.iret (v := (-9)) hx hb hr (fun t ht hW => ⟨_, rfl, by first | (simp only [kg_ref, if_neg c_1, if_neg c_2]; done) | (simp [kg_ref, c_1, c_2]; done), ht⟩) (fun q h => by cases h) d_G_refusalOf_21
  · refine lv_bipush (v := (-8)) hx hb d_G_refusalOf_8 (by decide) ?_
    exact W.iret (v := (-8)) hx hb hr (fun t ht hW => ⟨_, rfl, by first | (simp only [kg_ref, if_pos c_1]; done) | (simp [kg_ref, c_1]; done), ht⟩) (fun q h => by cases h) d_G_refusalOf_10
end
section
set_option maxHeartbeats 4000000 in
set_option maxRecDepth 100000 in
theorem lp_G_drop {p : Program} {l : Launch} {e : Env} {s : State} {m : MethodId} {args : Array Value} {below : List Frame} {meth : Method} {c : Code} {Q : State → Prop} {dC : Nat → ClassId} {dI : Nat → Nat → Nat} {cI cJ cR : ClassId} {d ar nb : Nat} {ga ha oa : Nat → Nat} (hnd : (kad d ar nb ga ha oa).Nodup) {lg tm lf wr : Int32} {G : Nat → kGV} {j : Nat} (hj : j < 8) {x0 x1 x2 x3 x4 : Int32} {x5 : Nat → Int32} {x6 : Nat → Int64} {p0 : Int32} {H : Heap} {locs : List Loc} (hx : p.tables.exec = Jvm.exec) (hb : c.code = b_G_dropSilent) (hml : c.maxLocals = 4) (hown : s.vm.findClass R_G = some m.cls) (hw : ∀ w ∈ kb_B, w.before args s = true) (hK : va_K (dC, dI) vwCl (kty cI cJ cR) s) (hP : va_P (dC, dI) vwCl (kw cI cJ cR d ar nb ga ha oa lg tm lf wr (va_up G j (x0, x1, x2, x3, x4, x5, x6))) H)
    (kk : ∀ ls : Array Slot, lv_has ls 4 [(3, .int (nI 8)), (2, .int (kg_sil x2 p0 x5 8)), (0, .ref (ga j)), (1, .int p0)] → W p l e (headSpec w_G_dropSilent ({ frames := 2, cells := 0, slots := 0, locals := 60 })).room s m args below meth c H locs 0 0 Q (F0 m 52 ls [])) :
    ∀ (k i : Nat) (ls : Array Slot), i + k = 8 → lv_has ls 4 [(3, .int (nI i)), (2, .int (kg_sil x2 p0 x5 i)), (0, .ref (ga j)), (1, .int p0)] → W p l e (headSpec w_G_dropSilent ({ frames := 2, cells := 0, slots := 0, locals := 60 })).room s m args below meth c H locs 0 0 Q (F0 m 13 ls []) := by
  intro k
  induction k with
  | zero =>
    intro i ls hi hl
    have hi8 : i = 8 := by omega
    subst hi8
    refine lv_iload_n hx hb d_G_dropSilent_13 rfl (lv_at hl 0 rfl) ?_
    refine lv_bipush (v := 8) hx hb d_G_dropSilent_14 (by decide) ?_
    refine lv_icmp_ge (tgt := 52) hx hb d_G_dropSilent_16 (by decide) (fun c_1 => ?_) (fun c_1 => ?_)
    · exact kk ls hl
    · exact absurd (nI_le (Nat.le_refl 8) (by decide)) c_1
  | succ k ih =>
    intro i ls hi hl
    refine lv_iload_n hx hb d_G_dropSilent_13 rfl (lv_at hl 0 rfl) ?_
    refine lv_bipush (v := 8) hx hb d_G_dropSilent_14 (by decide) ?_
    refine lv_icmp_ge (tgt := 52) hx hb d_G_dropSilent_16 (by decide) (fun c_1 => ?_) (fun c_1 => ?_)
    · exact absurd c_1 (nI_ge (a := i) (b := 8) (by omega) (by decide))
    · refine lv_aload_n hx hb d_G_dropSilent_19 rfl (lv_at hl 2 rfl) ?_
      refine lv_iload_n hx hb d_G_dropSilent_20 rfl (lv_at hl 0 rfl) ?_
      refine vp_callSi (W.runV (As := [.int (nI i)]) (rest := []) ⟨hx, hb, hml, hown, hw⟩ (c_G_has l hnd lg tm lf wr G hj x0 x1 x2 x3 x4 x5 x6 (nI i) _) (cwV 1 hw (kb_V kb_266 kb_231 kb_232 kb_4 kb_233) rfl rfl rfl (by decide +kernel) ⟨Nat.le_of_ble_eq_true rfl, Nat.le_of_ble_eq_true rfl⟩) (kPV (va_recv hK hP (ci := 2) (q0 := (3 * j + 3)) rfl (kw_gG hj)) hP hK) rfl rfl hl.1 rfl (lv_room (Nat.le_of_ble_eq_true rfl)) d_G_dropSilent_21 ⟨Nat.le_of_ble_eq_true rfl, Nat.le_of_ble_eq_true rfl⟩) (fun r_1 er_1 => ?_)
      subst er_1
      refine lv_if_eq (tgt := 46) hx hb d_G_dropSilent_24 (by decide) (fun c_2 => ?_) (fun c_2 => ?_)
      · refine lv_iinc (v := (nI i) + 1) (lv' := [(3, .int ((nI i) + 1)), (2, .int (kg_sil x2 p0 x5 i)), (0, .ref (ga j)), (1, .int p0)]) hx hb d_G_dropSilent_46 hl (k := 0) rfl rfl (by decide) rfl (fun ls hl => ?_)
        refine lv_goto (tgt := 13) hx hb d_G_dropSilent_49 (by decide) ?_
        have hs : kg_sil x2 p0 x5 (i + 1) = kg_sil x2 p0 x5 i := by simp only [kg_sil, if_pos c_2]
        refine ih (i + 1) ls (by omega) ?_
        rw [nI_succ, hs]
        exact lv_sub hl [0, 1, 2, 3] rfl
      · refine lv_iload_n hx hb d_G_dropSilent_27 rfl (lv_at hl 3 rfl) ?_
        refine lv_aload_n hx hb d_G_dropSilent_28 rfl (lv_at hl 2 rfl) ?_
        refine va_get (D := (dC, dI)) (ci := 2) (v := .ref (ha j)) (C := R_G) (T := F_G) (N := 7) hx hb hw i_G hown hK hP (3 * j + 3) (kw_gG hj) rfl 5 (by decide) (hw _ kb_61) (fun _ h9 => h9) rfl d_G_dropSilent_29 ?_
        refine lv_iload_n hx hb d_G_dropSilent_32 rfl (lv_at hl 0 rfl) ?_
        refine va_iald hx hb hK hP (3 * j + 4) 0 (kw_gH hj) rfl (vp_in_nI (by omega) (by decide)) d_G_dropSilent_33 ?_
        refine lv_isub hx hb d_G_dropSilent_34 ?_
        refine lv_bipush (v := 30) hx hb d_G_dropSilent_35 (by decide) ?_
        refine lv_icmp_lt (tgt := 46) hx hb d_G_dropSilent_37 (by decide) (fun c_3 => ?_) (fun c_3 => ?_)
        · rw [nI_clamp (by omega)] at c_3
          refine lv_iinc (v := (nI i) + 1) (lv' := [(3, .int ((nI i) + 1)), (2, .int (kg_sil x2 p0 x5 i)), (0, .ref (ga j)), (1, .int p0)]) hx hb d_G_dropSilent_46 hl (k := 0) rfl rfl (by decide) rfl (fun ls hl => ?_)
          refine lv_goto (tgt := 13) hx hb d_G_dropSilent_49 (by decide) ?_
          have hs : kg_sil x2 p0 x5 (i + 1) = kg_sil x2 p0 x5 i := by simp only [kg_sil, if_neg c_2, if_pos c_3]
          refine ih (i + 1) ls (by omega) ?_
          rw [nI_succ, hs]
          exact lv_sub hl [0, 1, 2, 3] rfl
        · rw [nI_clamp (by omega)] at c_3
          refine lv_iload_n hx hb d_G_dropSilent_40 rfl (lv_at hl 1 rfl) ?_
          refine lv_iconst (v := 1) hx hb d_G_dropSilent_41 (by decide) ?_
          refine lv_iload_n hx hb d_G_dropSilent_42 rfl (lv_at hl 0 rfl) ?_
          refine lv_ishl hx hb d_G_dropSilent_43 ?_
          refine lv_ior hx hb d_G_dropSilent_44 ?_
          refine lv_istore_n (lv' := [(2, .int ((kg_sil x2 p0 x5 i) ||| ((1 : Int32) <<< ((nI i) &&& 31)))), (3, .int (nI i)), (0, .ref (ga j)), (1, .int p0)]) hx hb d_G_dropSilent_45 rfl hl (by decide) rfl (fun ls hl => ?_)
          refine lv_iinc (v := (nI i) + 1) (lv' := [(3, .int ((nI i) + 1)), (2, .int ((kg_sil x2 p0 x5 i) ||| ((1 : Int32) <<< ((nI i) &&& 31)))), (0, .ref (ga j)), (1, .int p0)]) hx hb d_G_dropSilent_46 hl (k := 1) rfl rfl (by decide) rfl (fun ls hl => ?_)
          refine lv_goto (tgt := 13) hx hb d_G_dropSilent_49 (by decide) ?_
          have hs : kg_sil x2 p0 x5 (i + 1) = (kg_sil x2 p0 x5 i) ||| ((1 : Int32) <<< ((nI i) &&& 31)) := by simp only [kg_sil, if_neg c_2, if_neg c_3]
          refine ih (i + 1) ls (by omega) ?_
          rw [nI_succ, hs]
          exact lv_sub hl [0, 1, 2, 3] rfl
set_option maxHeartbeats 4000000 in
set_option maxRecDepth 100000 in
theorem c_G_dropSilent (l : Launch) {dC : Nat → ClassId} {dI : Nat → Nat → Nat} {cI cJ cR : ClassId} {d ar nb : Nat} {ga ha oa : Nat → Nat} (hnd : (kad d ar nb ga ha oa).Nodup) (lg tm lf wr : Int32) (G : Nat → kGV) {j : Nat} (hj : j < 8) (x0 x1 x2 x3 x4 : Int32) (x5 : Nat → Int32) (x6 : Nat → Int64) (p0 : Int32) (sz : Nat) : Met l y_G_dropSilent w_G_dropSilent ({ frames := 2, cells := 0, slots := 0, locals := 60 }) (kPre (dC, dI) vwCl (kty cI cJ cR) [.ref (ga j), .int p0] sz (kw cI cJ cR d ar nb ga ha oa lg tm lf wr (va_up G j (x0, x1, x2, x3, x4, x5, x6)))) (va_Qv (fun u : kDV => u = (lg, tm, lf, wr, va_up G j (kg_drop p0 (x0, x1, x2, x3, x4, x5, x6)))) (fun u t => va_P (dC, dI) vwCl (kwv cI cJ cR d ar nb ga ha oa u) t.heap) (kA (kad d ar nb ga ha oa) sz)) 0 0 (kA (kad d ar nb ga ha oa) sz) := by
  refine Met.ofW (cc := b_G_dropSilent) (maxL := 4) (ret := none) (by decide) rfl ?_
  intro p e s m args below meth c s₁ B hml hv
  obtain ⟨rfl, hsz, hP, hK⟩ := hv
  have hx := B.exec
  have hb := B.bytes
  have hr := B.returns
  have hts := atoms_spec (ws := w_G_dropSilent) B.pre
  have hw := fun (w : Cond) (h : w ∈ kb_B) => hts w (List.mem_cons_of_mem _ h)
  have hown : s.vm.findClass R_G = some m.cls := findClass_of_methodNamed B.named
  have hlocks := B.notSynchronized
  subst hsz
  generalize hAe : kA (kad d ar nb ga ha oa) s.heap.size = A
  have hA : ∀ q : Nat, s.heap.size ≤ q → A q := fun q h => by rw [← hAe]; exact Or.inr h
  have hAL : ∀ q ∈ (kad d ar nb ga ha oa), A q := fun q h => by rw [← hAe]; exact Or.inl h
  have hS : va_S A s.heap s.heap [] := va_S.rf
  have hl := lv_entry ([.ref (ga j), .int p0]) (n := 4) (Nat.le_of_ble_eq_true rfl)
  rw [lg_entry_eq]
  generalize (lg_sl ([.ref (ga j), .int p0]) ++ List.replicate (4 - (lg_sl ([.ref (ga j), .int p0])).length) Slot.unset).toArray = ls at hl ⊢
  have hl : lv_has ls 4 [(0, .ref (ga j)), (1, .int p0)] := hl
  refine lv_aload_n hx hb d_G_dropSilent_0 rfl (lv_at hl 0 rfl) ?_
  refine va_get (D := (dC, dI)) (ci := 2) (v := .int x1) (C := R_G) (T := F_G) (N := 7) hx hb hw i_G hown hK hP (3 * j + 3) (kw_gG hj) rfl 1 (by decide) (hw _ kb_54) (fun _ h9 => h9) rfl d_G_dropSilent_1 ?_
  refine lv_iconst (v := 2) hx hb d_G_dropSilent_4 (by decide) ?_
  refine lv_icmp_eq (tgt := 9) hx hb d_G_dropSilent_5 (by decide) (fun c_1 => ?_) (fun c_1 => ?_)
  · refine lv_iconst (v := 0) hx hb d_G_dropSilent_9 (by decide) ?_
    refine lv_istore_n (lv' := [(2, .int 0), (0, .ref (ga j)), (1, .int p0)]) hx hb d_G_dropSilent_10 rfl hl (by decide) rfl (fun ls hl => ?_)
    refine lv_iconst (v := 0) hx hb d_G_dropSilent_11 (by decide) ?_
    refine lv_istore_n (lv' := [(3, .int 0), (2, .int 0), (0, .ref (ga j)), (1, .int p0)]) hx hb d_G_dropSilent_12 rfl hl (by decide) rfl (fun ls hl => ?_)
    refine lp_G_drop hnd hj hx hb hml hown hw hK hP (fun ls hl => ?_) 8 0 ls rfl (lv_sub hl [0, 1, 2, 3] rfl)
    refine lv_iload_n hx hb d_G_dropSilent_52 rfl (lv_at hl 1 rfl) ?_
    refine lv_if_eq (tgt := 62) hx hb d_G_dropSilent_53 (by decide) (fun c_2 => ?_) (fun c_2 => ?_)
    · exact W.vret hx hb hr (fun t ht hW => ⟨⟨(lg, tm, lf, wr, (va_up G j (x0, x1, x2, x3, x4, x5, x6))), rfl, by first | (simp only [kg_drop, if_pos c_1, if_pos c_2]; done) | (simp [kg_drop, c_1, c_2]; done), by show va_P _ _ _ t.heap; rw [ht]; exact hP⟩, hS.F ht⟩) hS.2.2 d_G_dropSilent_62
    · refine lv_aload_n hx hb d_G_dropSilent_56 rfl (lv_at hl 2 rfl) ?_
      refine lv_iload_n hx hb d_G_dropSilent_57 rfl (lv_at hl 1 rfl) ?_
      refine lv_iload_n hx hb d_G_dropSilent_58 rfl (lv_at hl 3 rfl) ?_
      refine kc_v (Wd := kwv cI cJ cR d ar nb ga ha oa) (va_runV (As := [.int (kg_sil x2 p0 x5 8), .int p0]) (rest := []) ⟨hx, hb, hml, hown, hw⟩ (c_G_putOut l hnd lg tm lf wr G hj x0 x1 x2 x3 x4 x5 x6 (kg_sil x2 p0 x5 8) p0 _) (cwV 2 hw (kb_V kb_328 kb_235 kb_236 kb_4 kb_237) rfl rfl rfl (by decide +kernel) ⟨Nat.le_of_ble_eq_true rfl, Nat.le_of_ble_eq_true rfl⟩) (kPV (va_recv hK hP (ci := 2) (q0 := (3 * j + 3)) rfl (kw_gG hj)) hP hK) rfl rfl hl.1 rfl (lv_room (Nat.le_of_ble_eq_true rfl)) d_G_dropSilent_59 ⟨Nat.le_of_ble_eq_true rfl, Nat.le_of_ble_eq_true rfl⟩) hS hA hAL (fun u_1 H locs hw hP _ _ hS => ?_)
      subst hw
      have hP : va_P (dC, dI) vwCl (kw cI cJ cR d ar nb ga ha oa lg tm lf wr (va_up G j (kg_out (kg_sil x2 p0 x5 8) p0 (x0, x1, x2, x3, x4, x5, x6)))) _ := hP
      generalize hq_3 : kg_out (kg_sil x2 p0 x5 8) p0 (x0, x1, x2, x3, x4, x5, x6) = z_3 at hP
      obtain ⟨y3_0, y3_1, y3_2, y3_3, y3_4, y3_5, y3_6⟩ := z_3
      exact W.vret hx hb hr (fun t ht hW => ⟨⟨(lg, tm, lf, wr, (va_up G j (y3_0, y3_1, y3_2, y3_3, y3_4, y3_5, y3_6))), rfl, by first | (simp only [kg_drop, if_pos c_1, if_neg c_2, hq_3]; done) | (simp [kg_drop, c_1, c_2, hq_3]; done), by show va_P _ _ _ t.heap; rw [ht]; exact hP⟩, hS.F ht⟩) hS.2.2 d_G_dropSilent_62
  · exact W.vret hx hb hr (fun t ht hW => ⟨⟨(lg, tm, lf, wr, (va_up G j (x0, x1, x2, x3, x4, x5, x6))), rfl, by first | (simp only [kg_drop, if_neg c_1]; done) | (simp [kg_drop, c_1]; done), by show va_P _ _ _ t.heap; rw [ht]; exact hP⟩, hS.F ht⟩) hS.2.2 d_G_dropSilent_8
end
section
set_option maxHeartbeats 4000000 in
set_option maxRecDepth 100000 in
theorem lp_D_tick {p : Program} {l : Launch} {e : Env} {s : State} {m : MethodId} {args : Array Value} {below : List Frame} {meth : Method} {c : Code} {Q : State → Prop} {dC : Nat → ClassId} {dI : Nat → Nat → Nat} {cI cJ cR : ClassId} {d ar nb : Nat} {ga ha oa : Nat → Nat} (hnd : (kad d ar nb ga ha oa).Nodup) {lg tm lf wr : Int32} {G : Nat → kGV} {A : Nat → Prop} (hx : p.tables.exec = Jvm.exec) (hb : c.code = b_D_tick) (hml : c.maxLocals = 2) (hown : s.vm.findClass R_D = some m.cls) (hw : ∀ w ∈ kb_B, w.before args s = true) (hK : va_K (dC, dI) vwCl (kty cI cJ cR) s) (hA : ∀ q : Nat, s.heap.size ≤ q → A q) (hAL : ∀ q ∈ (kad d ar nb ga ha oa), A q)
    (kk : ∀ (H : Heap) (locs : List Loc) (ls : Array Slot), va_P (dC, dI) vwCl (kw cI cJ cR d ar nb ga ha oa lg tm (kd_tk tm lf wr G 8).1 (kd_tk tm lf wr G 8).2.1 (kd_tk tm lf wr G 8).2.2) H → va_S A s.heap H locs → W p l e (headSpec w_D_tick ({ frames := 3, cells := 0, slots := 0, locals := 100 })).room s m args below meth c H locs 0 0 Q (F0 m 54 ls [])) :
    ∀ (k i : Nat) (H : Heap) (locs : List Loc) (ls : Array Slot), i + k = 8 → va_P (dC, dI) vwCl (kw cI cJ cR d ar nb ga ha oa lg tm (kd_tk tm lf wr G i).1 (kd_tk tm lf wr G i).2.1 (kd_tk tm lf wr G i).2.2) H → va_S A s.heap H locs → lv_has ls 2 [(1, .int (nI i)), (0, .ref d)] → W p l e (headSpec w_D_tick ({ frames := 3, cells := 0, slots := 0, locals := 100 })).room s m args below meth c H locs 0 0 Q (F0 m 12 ls []) := by
  intro k
  induction k with
  | zero =>
    intro i H locs ls hi hP hS hl
    have hi8 : i = 8 := by omega
    subst hi8
    refine lv_iload_n hx hb d_D_tick_12 rfl (lv_at hl 0 rfl) ?_
    refine lv_bipush (v := 8) hx hb d_D_tick_13 (by decide) ?_
    refine lv_icmp_ge (tgt := 54) hx hb d_D_tick_15 (by decide) (fun c_1 => ?_) (fun c_1 => ?_)
    · exact kk H locs ls hP hS
    · exact absurd (nI_le (Nat.le_refl 8) (by decide)) c_1
  | succ k ih =>
    intro i H locs ls hi hP hS hl
    generalize hz : kd_tk tm lf wr G i = z at hP
    obtain ⟨lf1, wr1, G1⟩ := z
    have hP : va_P (dC, dI) vwCl (kw cI cJ cR d ar nb ga ha oa lg tm lf1 wr1 G1) H := hP
    have hj : i < 8 := by omega
    rw [← kv_at G1 i] at hP
    generalize hGi : G1 i = gv at hP
    obtain ⟨x0, x1, x2, x3, x4, x5, x6⟩ := gv
    refine lv_iload_n hx hb d_D_tick_12 rfl (lv_at hl 0 rfl) ?_
    refine lv_bipush (v := 8) hx hb d_D_tick_13 (by decide) ?_
    refine lv_icmp_ge (tgt := 54) hx hb d_D_tick_15 (by decide) (fun c_1 => ?_) (fun c_1 => ?_)
    · exact absurd c_1 (nI_ge (a := i) (b := 8) (by omega) (by decide))
    · refine lv_aload_n hx hb d_D_tick_18 rfl (lv_at hl 1 rfl) ?_
      refine va_get (D := (dC, dI)) (ci := 0) (v := .ref ar) (C := R_D) (T := F_D) (N := 4) hx hb hw i_D hown hK hP 0 rfl rfl 1 (by decide) (hw _ kb_83) (fun _ h9 => h9) rfl d_D_tick_19 ?_
      refine lv_iload_n hx hb d_D_tick_22 rfl (lv_at hl 0 rfl) ?_
      refine va_aldq hx hb hK hP 1 2 rfl rfl (vp_in_nI hj (by decide)) d_D_tick_23 ?_
      refine W.eq (g2 := F0 m 24 ls [.ref (ga i)]) (by rw [nI_clamp (by omega)]; rfl) ?_
      refine lv_aload_n hx hb d_D_tick_24 rfl (lv_at hl 1 rfl) ?_
      refine va_get (D := (dC, dI)) (ci := 0) (v := .int tm) (C := R_D) (T := F_D) (N := 4) hx hb hw i_D hown hK hP 0 rfl rfl 3 (by decide) (hw _ kb_85) (fun _ h9 => h9) rfl d_D_tick_25 ?_
      refine kc_v (Wd := kwv cI cJ cR d ar nb ga ha oa) (va_runV (As := [.int tm]) (rest := []) ⟨hx, hb, hml, hown, hw⟩ (c_G_dropSilent l hnd lg tm lf1 wr1 G1 hj x0 x1 x2 x3 x4 x5 x6 tm _) (cwV 1 hw (kb_V kb_324 kb_325 kb_326 kb_4 kb_327) rfl rfl rfl (by decide +kernel) ⟨Nat.le_of_ble_eq_true rfl, Nat.le_of_ble_eq_true rfl⟩) (kPV (va_recv hK hP (ci := 2) (q0 := (3 * i + 3)) rfl (kw_gG hj)) hP hK) rfl rfl hl.1 rfl (lv_room (Nat.le_of_ble_eq_true rfl)) d_D_tick_28 ⟨Nat.le_of_ble_eq_true rfl, Nat.le_of_ble_eq_true rfl⟩) hS hA hAL (fun u_1 H locs hw hP _ _ hS => ?_)
      subst hw
      have hP : va_P (dC, dI) vwCl (kw cI cJ cR d ar nb ga ha oa lg tm lf1 wr1 (va_up G1 i (kg_drop tm (x0, x1, x2, x3, x4, x5, x6)))) _ := hP
      generalize hq_3 : kg_drop tm (x0, x1, x2, x3, x4, x5, x6) = z_3 at hP
      obtain ⟨y3_0, y3_1, y3_2, y3_3, y3_4, y3_5, y3_6⟩ := z_3
      refine lv_aload_n hx hb d_D_tick_31 rfl (lv_at hl 1 rfl) ?_
      refine va_get (D := (dC, dI)) (ci := 0) (v := .ref ar) (C := R_D) (T := F_D) (N := 4) hx hb hw i_D hown hK hP 0 rfl rfl 1 (by decide) (hw _ kb_83) (fun _ h9 => h9) rfl d_D_tick_32 ?_
      refine lv_iload_n hx hb d_D_tick_35 rfl (lv_at hl 0 rfl) ?_
      refine va_aldq hx hb hK hP 1 2 rfl rfl (vp_in_nI hj (by decide)) d_D_tick_36 ?_
      refine W.eq (g2 := F0 m 37 ls [.ref (ga i)]) (by rw [nI_clamp (by omega)]; rfl) ?_
      refine lv_aload_n hx hb d_D_tick_37 rfl (lv_at hl 1 rfl) ?_
      refine va_get (D := (dC, dI)) (ci := 0) (v := .int tm) (C := R_D) (T := F_D) (N := 4) hx hb hw i_D hown hK hP 0 rfl rfl 3 (by decide) (hw _ kb_85) (fun _ h9 => h9) rfl d_D_tick_38 ?_
      refine lv_aload_n hx hb d_D_tick_41 rfl (lv_at hl 1 rfl) ?_
      refine va_get (D := (dC, dI)) (ci := 0) (v := .ref nb) (C := R_D) (T := F_D) (N := 4) hx hb hw i_D hown hK hP 0 rfl rfl 2 (by decide) (hw _ kb_84) (fun _ h9 => h9) rfl d_D_tick_42 ?_
      refine kc_v (Wd := kwv cI cJ cR d ar nb ga ha oa) (va_runV (As := [.int tm, .ref nb]) (rest := []) ⟨hx, hb, hml, hown, hw⟩ (c_G_finishMixing l hnd lg tm lf1 wr1 G1 hj y3_0 y3_1 y3_2 y3_3 y3_4 y3_5 y3_6 tm _) (cwV 2 hw (kb_V kb_207 kb_208 kb_209 kb_4 kb_210) rfl rfl rfl (by decide +kernel) ⟨Nat.le_of_ble_eq_true rfl, Nat.le_of_ble_eq_true rfl⟩) (kPV (va_recv hK hP (ci := 2) (q0 := (3 * i + 3)) rfl (kw_gG hj)) hP hK) rfl rfl hl.1 rfl (lv_room (Nat.le_of_ble_eq_true rfl)) d_D_tick_45 ⟨Nat.le_of_ble_eq_true rfl, Nat.le_of_ble_eq_true rfl⟩) hS hA hAL (fun u_4 H locs hw hP _ _ hS => ?_)
      subst hw
      have hP : va_P (dC, dI) vwCl (kw cI cJ cR d ar nb ga ha oa lg tm (kg_fin tm lf1 wr1 (y3_0, y3_1, y3_2, y3_3, y3_4, y3_5, y3_6)).2.1 (kg_fin tm lf1 wr1 (y3_0, y3_1, y3_2, y3_3, y3_4, y3_5, y3_6)).2.2 (va_up G1 i (kg_fin tm lf1 wr1 (y3_0, y3_1, y3_2, y3_3, y3_4, y3_5, y3_6)).1)) _ := hP
      generalize hq_6 : kg_fin tm lf1 wr1 (y3_0, y3_1, y3_2, y3_3, y3_4, y3_5, y3_6) = z_6 at hP
      obtain ⟨⟨y6_0, y6_1, y6_2, y6_3, y6_4, y6_5, y6_6⟩, lf_6, wr_6⟩ := z_6
      have hP : va_P (dC, dI) vwCl (kw cI cJ cR d ar nb ga ha oa lg tm lf_6 wr_6 (va_up G1 i (y6_0, y6_1, y6_2, y6_3, y6_4, y6_5, y6_6))) _ := hP
      refine lv_iinc (v := (nI i) + 1) (lv' := [(1, .int ((nI i) + 1)), (0, .ref d)]) hx hb d_D_tick_48 hl (k := 0) rfl rfl (by decide) rfl (fun ls hl => ?_)
      refine lv_goto (tgt := 12) hx hb d_D_tick_51 (by decide) ?_
      have hs : kd_tk tm lf wr G (i + 1) = (lf_6, wr_6, (va_up G1 i (y6_0, y6_1, y6_2, y6_3, y6_4, y6_5, y6_6))) := by simp only [kd_tk, hz, hGi, hq_3, hq_6]
      refine ih (i + 1) H locs ls (by omega) ?_ hS ?_
      · rw [hs]; exact hP
      · rw [nI_succ]; exact lv_sub hl [0, 1] rfl
set_option maxHeartbeats 4000000 in
set_option maxRecDepth 100000 in
theorem c_D_tick (l : Launch) {dC : Nat → ClassId} {dI : Nat → Nat → Nat} {cI cJ cR : ClassId} {d ar nb : Nat} {ga ha oa : Nat → Nat} (hnd : (kad d ar nb ga ha oa).Nodup) (lg tm lf wr : Int32) (G : Nat → kGV) (sz : Nat) : Met l y_D_tick w_D_tick ({ frames := 3, cells := 0, slots := 0, locals := 100 }) (kPre (dC, dI) vwCl (kty cI cJ cR) [.ref d] sz (kw cI cJ cR d ar nb ga ha oa lg tm lf wr G)) (va_Qv (fun u : kDV => u = kd_tick (lg, tm, lf, wr, G)) (fun u t => va_P (dC, dI) vwCl (kwv cI cJ cR d ar nb ga ha oa u) t.heap) (kA (kad d ar nb ga ha oa) sz)) 0 0 (kA (kad d ar nb ga ha oa) sz) := by
  refine Met.ofW (cc := b_D_tick) (maxL := 2) (ret := none) (by decide) rfl ?_
  intro p e s m args below meth c s₁ B hml hv
  obtain ⟨rfl, hsz, hP, hK⟩ := hv
  have hx := B.exec
  have hb := B.bytes
  have hr := B.returns
  have hts := atoms_spec (ws := w_D_tick) B.pre
  have hw := fun (w : Cond) (h : w ∈ kb_B) => hts w (List.mem_cons_of_mem _ h)
  have hown : s.vm.findClass R_D = some m.cls := findClass_of_methodNamed B.named
  have hlocks := B.notSynchronized
  subst hsz
  generalize hAe : kA (kad d ar nb ga ha oa) s.heap.size = A
  have hA : ∀ q : Nat, s.heap.size ≤ q → A q := fun q h => by rw [← hAe]; exact Or.inr h
  have hAL : ∀ q ∈ (kad d ar nb ga ha oa), A q := fun q h => by rw [← hAe]; exact Or.inl h
  have hS : va_S A s.heap s.heap [] := va_S.rf
  have hl := lv_entry ([.ref d]) (n := 2) (Nat.le_of_ble_eq_true rfl)
  rw [lg_entry_eq]
  generalize (lg_sl ([.ref d]) ++ List.replicate (2 - (lg_sl ([.ref d])).length) Slot.unset).toArray = ls at hl ⊢
  have hl : lv_has ls 2 [(0, .ref d)] := hl
  refine lv_aload_n hx hb d_D_tick_0 rfl (lv_at hl 0 rfl) ?_
  refine lv_dup hx hb d_D_tick_1 rfl ?_
  refine va_get (D := (dC, dI)) (ci := 0) (v := .int tm) (C := R_D) (T := F_D) (N := 4) hx hb hw i_D hown hK hP 0 rfl rfl 3 (by decide) (hw _ kb_85) (fun _ h9 => h9) rfl d_D_tick_2 ?_
  refine lv_iconst (v := 1) hx hb d_D_tick_5 (by decide) ?_
  refine lv_iadd hx hb d_D_tick_6 ?_
  refine va_put (D := (dC, dI)) (ci := 0) (v := .int (tm + (1 : Int32))) (ty := .int) (C := R_D) (T := F_D) (N := 4) hx hb hw i_D t_D t_D_ok n_D hown hK hP (kw_D hnd hAL) hS 0 rfl rfl 3 (by decide) (hw _ kb_85) (fun _ h9 => h9) rfl (by decide +kernel) rfl rfl (Nat.le_of_ble_eq_true rfl) d_D_tick_7 (fun H locs hP _ hS => ?_)
  have hP : va_P (dC, dI) vwCl (kw cI cJ cR d ar nb ga ha oa lg (tm + (1 : Int32)) lf wr G) _ := hP
  refine lv_iconst (v := 0) hx hb d_D_tick_10 (by decide) ?_
  refine lv_istore_n (lv' := [(1, .int 0), (0, .ref d)]) hx hb d_D_tick_11 rfl hl (by decide) rfl (fun ls hl => ?_)
  refine lp_D_tick (tm := tm + 1) (lf := lf) (wr := wr) (G := G) hnd hx hb hml hown hw hK hA hAL (fun H locs ls hP hS => ?_) 8 0 _ _ ls rfl hP hS (lv_sub hl [0, 1] rfl)
  exact W.vret hx hb hr (fun t ht hW => ⟨⟨_, rfl, rfl, by show va_P _ _ _ t.heap; rw [ht]; exact hP⟩, hS.F ht⟩) hS.2.2 d_D_tick_54
set_option maxHeartbeats 4000000 in
set_option maxRecDepth 100000 in
theorem lp_D_restart {p : Program} {l : Launch} {e : Env} {s : State} {m : MethodId} {args : Array Value} {below : List Frame} {meth : Method} {c : Code} {Q : State → Prop} {dC : Nat → ClassId} {dI : Nat → Nat → Nat} {cI cJ cR : ClassId} {d ar nb : Nat} {ga ha oa : Nat → Nat} (hnd : (kad d ar nb ga ha oa).Nodup) {lg tm lf wr : Int32} {G : Nat → kGV} {A : Nat → Prop} (hx : p.tables.exec = Jvm.exec) (hb : c.code = b_D_restart) (hml : c.maxLocals = 3) (hown : s.vm.findClass R_D = some m.cls) (hw : ∀ w ∈ kb_B, w.before args s = true) (hK : va_K (dC, dI) vwCl (kty cI cJ cR) s) (hA : ∀ q : Nat, s.heap.size ≤ q → A q) (hAL : ∀ q ∈ (kad d ar nb ga ha oa), A q)
    (kk : ∀ (H : Heap) (locs : List Loc) (ls : Array Slot), va_P (dC, dI) vwCl (kw cI cJ cR d ar nb ga ha oa lg tm lf wr (kd_rest G 8).2) H → va_S A s.heap H locs → lv_has ls 3 [(2, .int (nI 8)), (1, .int (kd_rest G 8).1), (0, .ref d)] → W p l e (headSpec w_D_restart ({ frames := 1, cells := 0, slots := 0, locals := 30 })).room s m args below meth c H locs 0 0 Q (F0 m 40 ls [])) :
    ∀ (k i : Nat) (H : Heap) (locs : List Loc) (ls : Array Slot), i + k = 8 → va_P (dC, dI) vwCl (kw cI cJ cR d ar nb ga ha oa lg tm lf wr (kd_rest G i).2) H → va_S A s.heap H locs → lv_has ls 3 [(2, .int (nI i)), (1, .int ((kd_rest G i).1)), (0, .ref d)] → W p l e (headSpec w_D_restart ({ frames := 1, cells := 0, slots := 0, locals := 30 })).room s m args below meth c H locs 0 0 Q (F0 m 4 ls []) := by
  intro k
  induction k with
  | zero =>
    intro i H locs ls hi hP hS hl
    have hi8 : i = 8 := by omega
    subst hi8
    refine lv_iload_n hx hb d_D_restart_4 rfl (lv_at hl 0 rfl) ?_
    refine lv_bipush (v := 8) hx hb d_D_restart_5 (by decide) ?_
    refine lv_icmp_ge (tgt := 40) hx hb d_D_restart_7 (by decide) (fun c_1 => ?_) (fun c_1 => ?_)
    · exact kk H locs ls hP hS hl
    · exact absurd (nI_le (Nat.le_refl 8) (by decide)) c_1
  | succ k ih =>
    intro i H locs ls hi hP hS hl
    generalize hz : kd_rest G i = z at hP hl
    obtain ⟨s1, G1⟩ := z
    have hP : va_P (dC, dI) vwCl (kw cI cJ cR d ar nb ga ha oa lg tm lf wr G1) H := hP
    have hl : lv_has ls 3 [(2, .int (nI i)), (1, .int s1), (0, .ref d)] := hl
    have hj : i < 8 := by omega
    rw [← kv_at G1 i] at hP
    generalize hGi : G1 i = gv at hP
    obtain ⟨x0, x1, x2, x3, x4, x5, x6⟩ := gv
    refine lv_iload_n hx hb d_D_restart_4 rfl (lv_at hl 0 rfl) ?_
    refine lv_bipush (v := 8) hx hb d_D_restart_5 (by decide) ?_
    refine lv_icmp_ge (tgt := 40) hx hb d_D_restart_7 (by decide) (fun c_1 => ?_) (fun c_1 => ?_)
    · exact absurd c_1 (nI_ge (a := i) (b := 8) (by omega) (by decide))
    · refine lv_iload_n hx hb d_D_restart_10 rfl (lv_at hl 1 rfl) ?_
      refine lv_aload_n hx hb d_D_restart_11 rfl (lv_at hl 2 rfl) ?_
      refine va_get (D := (dC, dI)) (ci := 0) (v := .ref ar) (C := R_D) (T := F_D) (N := 4) hx hb hw i_D hown hK hP 0 rfl rfl 1 (by decide) (hw _ kb_83) (fun _ h9 => h9) rfl d_D_restart_12 ?_
      refine lv_iload_n hx hb d_D_restart_15 rfl (lv_at hl 0 rfl) ?_
      refine va_aldq hx hb hK hP 1 2 rfl rfl (vp_in_nI hj (by decide)) d_D_restart_16 ?_
      refine W.eq (g2 := F0 m 17 ls [.ref (ga i), .int s1]) (by rw [nI_clamp (by omega)]; rfl) ?_
      refine va_get (D := (dC, dI)) (ci := 2) (v := .int x2) (C := R_G) (T := F_G) (N := 7) hx hb hw i_G hown hK hP (3 * i + 3) (kw_gG hj) rfl 2 (by decide) (hw _ kb_57) (fun _ h9 => h9) rfl d_D_restart_17 ?_
      refine vp_callSi (W.runS (As := [.int x2]) (rest := [.int s1]) ⟨hx, hb, hml, hown, hw⟩ (c_J_bitCount l x2) (va_cwS 1 hw (kb_S kb_99 kb_100 kb_11 kb_101) rfl rfl rfl (by decide +kernel) ⟨Nat.le_of_ble_eq_true rfl, Nat.le_of_ble_eq_true rfl⟩) preEq rfl rfl hl.1 rfl (lv_room (Nat.le_of_ble_eq_true rfl)) d_D_restart_20 ⟨Nat.le_of_ble_eq_true rfl, Nat.le_of_ble_eq_true rfl⟩) (fun r_1 er_1 => ?_)
      subst er_1
      refine lv_iadd hx hb d_D_restart_23 ?_
      refine lv_istore_n (lv' := [(1, .int (s1 + (k_bc x2))), (2, .int (nI i)), (0, .ref d)]) hx hb d_D_restart_24 rfl hl (by decide) rfl (fun ls hl => ?_)
      refine lv_aload_n hx hb d_D_restart_25 rfl (lv_at hl 2 rfl) ?_
      refine va_get (D := (dC, dI)) (ci := 0) (v := .ref ar) (C := R_D) (T := F_D) (N := 4) hx hb hw i_D hown hK hP 0 rfl rfl 1 (by decide) (hw _ kb_83) (fun _ h9 => h9) rfl d_D_restart_26 ?_
      refine lv_iload_n hx hb d_D_restart_29 rfl (lv_at hl 1 rfl) ?_
      refine va_aldq hx hb hK hP 1 2 rfl rfl (vp_in_nI hj (by decide)) d_D_restart_30 ?_
      refine W.eq (g2 := F0 m 31 ls [.ref (ga i)]) (by rw [nI_clamp (by omega)]; rfl) ?_
      refine kc_v (Wd := kwv cI cJ cR d ar nb ga ha oa) (va_runV (As := []) (rest := []) ⟨hx, hb, hml, hown, hw⟩ (c_G_clear l hnd lg tm lf wr G1 hj x0 x1 x2 x3 x4 x5 x6 _) (cwV 0 hw (kb_V kb_105 kb_106 kb_107 kb_4 kb_108) rfl rfl rfl (by decide +kernel) ⟨Nat.le_of_ble_eq_true rfl, Nat.le_of_ble_eq_true rfl⟩) (kPV (va_recv hK hP (ci := 2) (q0 := (3 * i + 3)) rfl (kw_gG hj)) hP hK) rfl rfl hl.1 rfl (lv_room (Nat.le_of_ble_eq_true rfl)) d_D_restart_31 ⟨Nat.le_of_ble_eq_true rfl, Nat.le_of_ble_eq_true rfl⟩) hS hA hAL (fun u_2 H locs hw hP _ _ hS => ?_)
      subst hw
      have hP : va_P (dC, dI) vwCl (kw cI cJ cR d ar nb ga ha oa lg tm lf wr (va_up G1 i (x0, 0, 0, 0, x4, x5, x6))) _ := hP
      refine lv_iinc (v := (nI i) + 1) (lv' := [(2, .int ((nI i) + 1)), (1, .int (s1 + (k_bc x2))), (0, .ref d)]) hx hb d_D_restart_34 hl (k := 1) rfl rfl (by decide) rfl (fun ls hl => ?_)
      refine lv_goto (tgt := 4) hx hb d_D_restart_37 (by decide) ?_
      have hs : kd_rest G (i + 1) = (s1 + (k_bc x2), (va_up G1 i (x0, 0, 0, 0, x4, x5, x6))) := by simp only [kd_rest, hz, hGi, kg_clear]
      refine ih (i + 1) H locs ls (by omega) ?_ hS ?_
      · rw [hs]; exact hP
      · rw [nI_succ, hs]; exact lv_sub hl [0, 1, 2] rfl
set_option maxHeartbeats 4000000 in
set_option maxRecDepth 100000 in
theorem c_D_restart (l : Launch) {dC : Nat → ClassId} {dI : Nat → Nat → Nat} {cI cJ cR : ClassId} {d ar nb : Nat} {ga ha oa : Nat → Nat} (hnd : (kad d ar nb ga ha oa).Nodup) (lg tm lf wr : Int32) (G : Nat → kGV) (sz : Nat) : Met l y_D_restart w_D_restart ({ frames := 1, cells := 0, slots := 0, locals := 30 }) (kPre (dC, dI) vwCl (kty cI cJ cR) [.ref d] sz (kw cI cJ cR d ar nb ga ha oa lg tm lf wr G)) (va_Qi (fun (r : Int32) (u : kDV) => r = (kd_rest G 8).1 ∧ u = (lg, tm, lf, wr, (kd_rest G 8).2)) (fun u t => va_P (dC, dI) vwCl (kwv cI cJ cR d ar nb ga ha oa u) t.heap) (kA (kad d ar nb ga ha oa) sz)) 0 0 (kA (kad d ar nb ga ha oa) sz) := by
  refine Met.ofW (cc := b_D_restart) (maxL := 3) (ret := (some .int)) (by decide) rfl ?_
  intro p e s m args below meth c s₁ B hml hv
  obtain ⟨rfl, hsz, hP, hK⟩ := hv
  have hx := B.exec
  have hb := B.bytes
  have hr := B.returns
  have hts := atoms_spec (ws := w_D_restart) B.pre
  have hw := fun (w : Cond) (h : w ∈ kb_B) => hts w (List.mem_cons_of_mem _ h)
  have hown : s.vm.findClass R_D = some m.cls := findClass_of_methodNamed B.named
  have hlocks := B.notSynchronized
  subst hsz
  generalize hAe : kA (kad d ar nb ga ha oa) s.heap.size = A
  have hA : ∀ q : Nat, s.heap.size ≤ q → A q := fun q h => by rw [← hAe]; exact Or.inr h
  have hAL : ∀ q ∈ (kad d ar nb ga ha oa), A q := fun q h => by rw [← hAe]; exact Or.inl h
  have hS : va_S A s.heap s.heap [] := va_S.rf
  have hl := lv_entry ([.ref d]) (n := 3) (Nat.le_of_ble_eq_true rfl)
  rw [lg_entry_eq]
  generalize (lg_sl ([.ref d]) ++ List.replicate (3 - (lg_sl ([.ref d])).length) Slot.unset).toArray = ls at hl ⊢
  have hl : lv_has ls 3 [(0, .ref d)] := hl
  refine lv_iconst (v := 0) hx hb d_D_restart_0 (by decide) ?_
  refine lv_istore_n (lv' := [(1, .int 0), (0, .ref d)]) hx hb d_D_restart_1 rfl hl (by decide) rfl (fun ls hl => ?_)
  refine lv_iconst (v := 0) hx hb d_D_restart_2 (by decide) ?_
  refine lv_istore_n (lv' := [(2, .int 0), (1, .int 0), (0, .ref d)]) hx hb d_D_restart_3 rfl hl (by decide) rfl (fun ls hl => ?_)
  refine lp_D_restart (lf := lf) (wr := wr) (G := G) hnd hx hb hml hown hw hK hA hAL (fun H locs ls hP hS hl => ?_) 8 0 _ _ ls rfl hP hS (lv_sub hl [0, 1, 2] rfl)
  refine lv_iload_n hx hb d_D_restart_40 rfl (lv_at hl 1 rfl) ?_
  exact W.iret hx hb hr (fun t ht hW => ⟨⟨_, (lg, tm, lf, wr, (kd_rest G 8).2), rfl, ⟨rfl, rfl⟩, by show va_P _ _ _ t.heap; rw [ht]; exact hP⟩, hS.F ht⟩) hS.2.2 d_D_restart_41
set_option maxHeartbeats 4000000 in
set_option maxRecDepth 100000 in
theorem c_D_notes (l : Launch) {dC : Nat → ClassId} {dI : Nat → Nat → Nat} {cI cJ cR : ClassId} {d ar nb : Nat} {ga ha oa : Nat → Nat} (hnd : (kad d ar nb ga ha oa).Nodup) (lg tm lf wr : Int32) (G : Nat → kGV) (sz : Nat) : Met l y_D_notes w_D_notes ({ frames := 0, cells := 0, slots := 0, locals := 0 }) (kPre (dC, dI) vwCl (kty cI cJ cR) [.ref d] sz (kw cI cJ cR d ar nb ga ha oa lg tm lf wr G)) (vp_Si (fun r => r = wr)) 0 0 (fun _ => False) := by
  refine Met.ofW (cc := b_D_notes) (maxL := 1) (ret := (some .int)) (by decide) rfl ?_
  intro p e s m args below meth c s₁ B hml hv
  obtain ⟨rfl, hsz, hP, hK⟩ := hv
  have hx := B.exec
  have hb := B.bytes
  have hr := B.returns
  have hts := atoms_spec (ws := w_D_notes) B.pre
  have hw := fun (w : Cond) (h : w ∈ kb_B) => hts w (List.mem_cons_of_mem _ h)
  have hown : s.vm.findClass R_D = some m.cls := findClass_of_methodNamed B.named
  have hlocks := B.notSynchronized
  subst hsz
  have hl := lv_entry ([.ref d]) (n := 1) (Nat.le_of_ble_eq_true rfl)
  rw [lg_entry_eq]
  generalize (lg_sl ([.ref d]) ++ List.replicate (1 - (lg_sl ([.ref d])).length) Slot.unset).toArray = ls at hl ⊢
  have hl : lv_has ls 1 [(0, .ref d)] := hl
  refine lv_aload_n hx hb d_D_notes_0 rfl (lv_at hl 0 rfl) ?_
  refine va_get (D := (dC, dI)) (ci := 0) (v := .ref nb) (C := R_D) (T := F_D) (N := 4) hx hb hw i_D hown hK hP 0 rfl rfl 2 (by decide) (hw _ kb_84) (fun _ h9 => h9) rfl d_D_notes_1 ?_
  refine va_get (D := (dC, dI)) (ci := 1) (v := .int wr) (C := R_N) (T := F_N) (N := 2) hx hb hw i_N hown hK hP 2 rfl rfl 1 (by decide) (hw _ kb_35) (fun _ h9 => h9) rfl d_D_notes_4 ?_
  exact W.iret (v := wr) hx hb hr (fun t ht hW => ⟨_, rfl, by first | (simp only []; done) | (simp []; done), ht⟩) (fun q h => by cases h) d_D_notes_7
end
section
set_option maxHeartbeats 4000000 in
set_option maxRecDepth 100000 in
theorem c_D_groupAt (l : Launch) (hl0 : l.stackTraces = false) {dC : Nat → ClassId} {dI : Nat → Nat → Nat} {cI cJ cR : ClassId} {d ar nb : Nat} {ga ha oa : Nat → Nat} (hnd : (kad d ar nb ga ha oa).Nodup) (lg tm lf wr : Int32) (G : Nat → kGV) (p0 : Int32) (sz : Nat) : MetT l y_D_groupAt w_D_groupAt ({ frames := 6, cells := 1, slots := 6, locals := 90 }) (kPreT (dC, dI) vwCl (kty cI cJ cR) [.ref d, .int p0] sz (kw cI cJ cR d ar nb ga ha oa lg tm lf wr G)) (kt_Or kt_N (kt_R (fun v => v = some (.ref (ga p0.toNatClampNeg)) ∧ vp_in p0 8)) (¬ vp_in p0 8)) 1 6 (fun _ => False) := by
  refine kt_ofW (cc := b_D_groupAt) (maxL := 2) (ret := (some (.object "GroupDesk$Group"))) (by decide) rfl ?_
  intro p e s m args below meth c s₁ B hml hv
  obtain ⟨⟨rfl, hsz, hP, hK⟩, hZ⟩ := hv
  have hx := B.exec
  have hb := B.bytes
  have hr := B.returns
  have hts := atoms_spec (ws := w_D_groupAt) B.pre
  have hw := fun (w : Cond) (h : w ∈ kb_B) => hts w (List.mem_cons_of_mem _ h)
  have hown : s.vm.findClass R_D = some m.cls := findClass_of_methodNamed B.named
  have hlocks := B.notSynchronized
  have hne := B.noHandlers (hts _ List.mem_cons_self)
  have htr : e.platform.stackTraces = false := by rw [Example.NoTraceControls.admits_follows B.admits]; exact hl0
  subst hsz
  generalize hAe : kA (kad d ar nb ga ha oa) s.heap.size = A
  have hA : ∀ q : Nat, s.heap.size ≤ q → A q := fun q h => by rw [← hAe]; exact Or.inr h
  have hAL : ∀ q ∈ (kad d ar nb ga ha oa), A q := fun q h => by rw [← hAe]; exact Or.inl h
  have hS : va_S A s.heap s.heap [] := va_S.rf
  have hl := lv_entry ([.ref d, .int p0]) (n := 2) (Nat.le_of_ble_eq_true rfl)
  rw [lg_entry_eq]
  generalize (lg_sl ([.ref d, .int p0]) ++ List.replicate (2 - (lg_sl ([.ref d, .int p0])).length) Slot.unset).toArray = ls at hl ⊢
  have hl : lv_has ls 2 [(0, .ref d), (1, .int p0)] := hl
  refine lv_iload_n hx hb d_D_groupAt_0 rfl (lv_at hl 1 rfl) ?_
  refine lv_if_lt (tgt := 10) hx hb d_D_groupAt_1 (by decide) (fun c_1 => ?_) (fun c_1 => ?_)
  · refine W.widen (k := 0) (n := 0) (by decide) (by decide) ?_
    obtain ⟨q9, hq9⟩ := hZ.2.use hown (k := 141) (tx := "there is no such group") (by decide)
    exact kt_throw (own := R_D) (xN := kt_N) (up := kt_U) (tx := "there is no such group") (q := q9) hx htr hb (hl.1.trans hml.symm) hown hne hlocks (by decide +kernel) (by decide +kernel) hZ.1.use (hw _ kb_128) (hw _ kb_129) (hw _ kb_10) hq9 (Nat.le_refl _) d_D_groupAt_10 d_D_groupAt_13 d_D_groupAt_14 d_D_groupAt_16 d_D_groupAt_19 (Nat.le_of_ble_eq_true rfl) (Nat.le_of_ble_eq_true rfl) (Nat.le_of_ble_eq_true rfl) (Nat.le_of_ble_eq_true rfl) (fun t x hW hX => Or.inr ⟨x, rfl, kn_no0 c_1, hX⟩)
  · refine lv_iload_n hx hb d_D_groupAt_4 rfl (lv_at hl 1 rfl) ?_
    refine lv_bipush (v := 8) hx hb d_D_groupAt_5 (by decide) ?_
    refine lv_icmp_lt (tgt := 20) hx hb d_D_groupAt_7 (by decide) (fun c_2 => ?_) (fun c_2 => ?_)
    · refine lv_aload_n hx hb d_D_groupAt_20 rfl (lv_at hl 0 rfl) ?_
      refine va_get (D := (dC, dI)) (ci := 0) (v := .ref ar) (C := R_D) (T := F_D) (N := 4) hx hb hw i_D hown hK hP 0 rfl rfl 1 (by decide) (hw _ kb_83) (fun _ h9 => h9) rfl d_D_groupAt_21 ?_
      refine lv_iload_n hx hb d_D_groupAt_24 rfl (lv_at hl 1 rfl) ?_
      refine va_aldq hx hb hK hP 1 2 rfl rfl (kn_lt (y := 8) (by decide) c_1 c_2) d_D_groupAt_25 ?_
      refine W.eq (g2 := F0 m 26 ls [.ref (ga p0.toNatClampNeg)]) rfl ?_
      refine W.widen (k := 1) (n := 6) (by decide) (by decide) ?_
      exact kt_W (fun _ h => kt_of h) (W.aret (v := .ref (ga p0.toNatClampNeg)) hx hb hr (Or.inl ⟨_, rfl⟩) (Or.inr ⟨_, rfl⟩) (fun t ht hW => Or.inl ⟨_, rfl, ⟨rfl, kn_lt (y := 8) (by decide) c_1 c_2⟩, ht⟩) (fun q h => by cases h) d_D_groupAt_26)
    · refine W.widen (k := 0) (n := 0) (by decide) (by decide) ?_
      obtain ⟨q9, hq9⟩ := hZ.2.use hown (k := 141) (tx := "there is no such group") (by decide)
      exact kt_throw (own := R_D) (xN := kt_N) (up := kt_U) (tx := "there is no such group") (q := q9) hx htr hb (hl.1.trans hml.symm) hown hne hlocks (by decide +kernel) (by decide +kernel) hZ.1.use (hw _ kb_128) (hw _ kb_129) (hw _ kb_10) hq9 (Nat.le_refl _) d_D_groupAt_10 d_D_groupAt_13 d_D_groupAt_14 d_D_groupAt_16 d_D_groupAt_19 (Nat.le_of_ble_eq_true rfl) (Nat.le_of_ble_eq_true rfl) (Nat.le_of_ble_eq_true rfl) (Nat.le_of_ble_eq_true rfl) (fun t x hW hX => Or.inr ⟨x, rfl, kn_ge (y := 8) (by decide) c_2, hX⟩)
set_option maxHeartbeats 4000000 in
set_option maxRecDepth 100000 in
theorem c_D_checkMember (l : Launch) (hl0 : l.stackTraces = false) {dC : Nat → ClassId} {dI : Nat → Nat → Nat} {cI cJ cR : ClassId} {d ar nb : Nat} {ga ha oa : Nat → Nat} (hnd : (kad d ar nb ga ha oa).Nodup) (lg tm lf wr : Int32) (G : Nat → kGV) (p0 : Int32) (sz : Nat) : MetT l y_D_checkMember w_D_checkMember ({ frames := 6, cells := 1, slots := 6, locals := 90 }) (kPreT (dC, dI) vwCl (kty cI cJ cR) [.ref d, .int p0] sz (kw cI cJ cR d ar nb ga ha oa lg tm lf wr G)) (kt_Or kt_N (kt_R (fun v => v = none ∧ vp_in p0 8)) (¬ vp_in p0 8)) 1 6 (fun _ => False) := by
  refine kt_ofW (cc := b_D_checkMember) (maxL := 2) (ret := none) (by decide) rfl ?_
  intro p e s m args below meth c s₁ B hml hv
  obtain ⟨⟨rfl, hsz, hP, hK⟩, hZ⟩ := hv
  have hx := B.exec
  have hb := B.bytes
  have hr := B.returns
  have hts := atoms_spec (ws := w_D_checkMember) B.pre
  have hw := fun (w : Cond) (h : w ∈ kb_B) => hts w (List.mem_cons_of_mem _ h)
  have hown : s.vm.findClass R_D = some m.cls := findClass_of_methodNamed B.named
  have hlocks := B.notSynchronized
  have hne := B.noHandlers (hts _ List.mem_cons_self)
  have htr : e.platform.stackTraces = false := by rw [Example.NoTraceControls.admits_follows B.admits]; exact hl0
  subst hsz
  generalize hAe : kA (kad d ar nb ga ha oa) s.heap.size = A
  have hA : ∀ q : Nat, s.heap.size ≤ q → A q := fun q h => by rw [← hAe]; exact Or.inr h
  have hAL : ∀ q ∈ (kad d ar nb ga ha oa), A q := fun q h => by rw [← hAe]; exact Or.inl h
  have hS : va_S A s.heap s.heap [] := va_S.rf
  have hl := lv_entry ([.ref d, .int p0]) (n := 2) (Nat.le_of_ble_eq_true rfl)
  rw [lg_entry_eq]
  generalize (lg_sl ([.ref d, .int p0]) ++ List.replicate (2 - (lg_sl ([.ref d, .int p0])).length) Slot.unset).toArray = ls at hl ⊢
  have hl : lv_has ls 2 [(0, .ref d), (1, .int p0)] := hl
  refine lv_iload_n hx hb d_D_checkMember_0 rfl (lv_at hl 1 rfl) ?_
  refine lv_if_lt (tgt := 10) hx hb d_D_checkMember_1 (by decide) (fun c_1 => ?_) (fun c_1 => ?_)
  · refine W.widen (k := 0) (n := 0) (by decide) (by decide) ?_
    obtain ⟨q9, hq9⟩ := hZ.2.use hown (k := 143) (tx := "there is no such member") (by decide)
    exact kt_throw (own := R_D) (xN := kt_N) (up := kt_U) (tx := "there is no such member") (q := q9) hx htr hb (hl.1.trans hml.symm) hown hne hlocks (by decide +kernel) (by decide +kernel) hZ.1.use (hw _ kb_128) (hw _ kb_129) (hw _ kb_10) hq9 (Nat.le_refl _) d_D_checkMember_10 d_D_checkMember_13 d_D_checkMember_14 d_D_checkMember_16 d_D_checkMember_19 (Nat.le_of_ble_eq_true rfl) (Nat.le_of_ble_eq_true rfl) (Nat.le_of_ble_eq_true rfl) (Nat.le_of_ble_eq_true rfl) (fun t x hW hX => Or.inr ⟨x, rfl, kn_no0 c_1, hX⟩)
  · refine lv_iload_n hx hb d_D_checkMember_4 rfl (lv_at hl 1 rfl) ?_
    refine lv_bipush (v := 8) hx hb d_D_checkMember_5 (by decide) ?_
    refine lv_icmp_lt (tgt := 20) hx hb d_D_checkMember_7 (by decide) (fun c_2 => ?_) (fun c_2 => ?_)
    · refine W.widen (k := 1) (n := 6) (by decide) (by decide) ?_
      exact kt_W (fun _ h => kt_of h) (W.vret hx hb hr (fun t ht hW => Or.inl ⟨_, rfl, ⟨rfl, kn_lt (y := 8) (by decide) c_1 c_2⟩, ht⟩) (fun q h => by cases h) d_D_checkMember_20)
    · refine W.widen (k := 0) (n := 0) (by decide) (by decide) ?_
      obtain ⟨q9, hq9⟩ := hZ.2.use hown (k := 143) (tx := "there is no such member") (by decide)
      exact kt_throw (own := R_D) (xN := kt_N) (up := kt_U) (tx := "there is no such member") (q := q9) hx htr hb (hl.1.trans hml.symm) hown hne hlocks (by decide +kernel) (by decide +kernel) hZ.1.use (hw _ kb_128) (hw _ kb_129) (hw _ kb_10) hq9 (Nat.le_refl _) d_D_checkMember_10 d_D_checkMember_13 d_D_checkMember_14 d_D_checkMember_16 d_D_checkMember_19 (Nat.le_of_ble_eq_true rfl) (Nat.le_of_ble_eq_true rfl) (Nat.le_of_ble_eq_true rfl) (Nat.le_of_ble_eq_true rfl) (fun t x hW hX => Or.inr ⟨x, rfl, kn_ge (y := 8) (by decide) c_2, hX⟩)
set_option maxHeartbeats 4000000 in
set_option maxRecDepth 100000 in
theorem c_D_checkLog (l : Launch) (hl0 : l.stackTraces = false) {dC : Nat → ClassId} {dI : Nat → Nat → Nat} {cI cJ cR : ClassId} {d ar nb : Nat} {ga ha oa : Nat → Nat} (hnd : (kad d ar nb ga ha oa).Nodup) (lg tm lf wr : Int32) (G : Nat → kGV) (p0 : Int32) (sz : Nat) : MetT l y_D_checkLog w_D_checkLog ({ frames := 6, cells := 1, slots := 6, locals := 90 }) (kPreT (dC, dI) vwCl (kty cI cJ cR) [.ref d, .int p0] sz (kw cI cJ cR d ar nb ga ha oa lg tm lf wr G)) (kt_Or kt_N (kt_R (fun v => v = none ∧ ¬ p0 < 0 ∧ p0 < lg)) (¬ (¬ p0 < 0 ∧ p0 < lg))) 1 6 (fun _ => False) := by
  refine kt_ofW (cc := b_D_checkLog) (maxL := 2) (ret := none) (by decide) rfl ?_
  intro p e s m args below meth c s₁ B hml hv
  obtain ⟨⟨rfl, hsz, hP, hK⟩, hZ⟩ := hv
  have hx := B.exec
  have hb := B.bytes
  have hr := B.returns
  have hts := atoms_spec (ws := w_D_checkLog) B.pre
  have hw := fun (w : Cond) (h : w ∈ kb_B) => hts w (List.mem_cons_of_mem _ h)
  have hown : s.vm.findClass R_D = some m.cls := findClass_of_methodNamed B.named
  have hlocks := B.notSynchronized
  have hne := B.noHandlers (hts _ List.mem_cons_self)
  have htr : e.platform.stackTraces = false := by rw [Example.NoTraceControls.admits_follows B.admits]; exact hl0
  subst hsz
  generalize hAe : kA (kad d ar nb ga ha oa) s.heap.size = A
  have hA : ∀ q : Nat, s.heap.size ≤ q → A q := fun q h => by rw [← hAe]; exact Or.inr h
  have hAL : ∀ q ∈ (kad d ar nb ga ha oa), A q := fun q h => by rw [← hAe]; exact Or.inl h
  have hS : va_S A s.heap s.heap [] := va_S.rf
  have hl := lv_entry ([.ref d, .int p0]) (n := 2) (Nat.le_of_ble_eq_true rfl)
  rw [lg_entry_eq]
  generalize (lg_sl ([.ref d, .int p0]) ++ List.replicate (2 - (lg_sl ([.ref d, .int p0])).length) Slot.unset).toArray = ls at hl ⊢
  have hl : lv_has ls 2 [(0, .ref d), (1, .int p0)] := hl
  refine lv_iload_n hx hb d_D_checkLog_0 rfl (lv_at hl 1 rfl) ?_
  refine lv_if_lt (tgt := 12) hx hb d_D_checkLog_1 (by decide) (fun c_1 => ?_) (fun c_1 => ?_)
  · refine W.widen (k := 0) (n := 0) (by decide) (by decide) ?_
    obtain ⟨q9, hq9⟩ := hZ.2.use hown (k := 145) (tx := "there is no such log") (by decide)
    exact kt_throw (own := R_D) (xN := kt_N) (up := kt_U) (tx := "there is no such log") (q := q9) hx htr hb (hl.1.trans hml.symm) hown hne hlocks (by decide +kernel) (by decide +kernel) hZ.1.use (hw _ kb_128) (hw _ kb_129) (hw _ kb_10) hq9 (Nat.le_refl _) d_D_checkLog_12 d_D_checkLog_15 d_D_checkLog_16 d_D_checkLog_18 d_D_checkLog_21 (Nat.le_of_ble_eq_true rfl) (Nat.le_of_ble_eq_true rfl) (Nat.le_of_ble_eq_true rfl) (Nat.le_of_ble_eq_true rfl) (fun t x hW hX => Or.inr ⟨x, rfl, fun h => h.1 c_1, hX⟩)
  · refine lv_iload_n hx hb d_D_checkLog_4 rfl (lv_at hl 1 rfl) ?_
    refine lv_aload_n hx hb d_D_checkLog_5 rfl (lv_at hl 0 rfl) ?_
    refine va_get (D := (dC, dI)) (ci := 0) (v := .int lg) (C := R_D) (T := F_D) (N := 4) hx hb hw i_D hown hK hP 0 rfl rfl 0 (by decide) (hw _ kb_82) (fun _ h9 => h9) rfl d_D_checkLog_6 ?_
    refine lv_icmp_lt (tgt := 22) hx hb d_D_checkLog_9 (by decide) (fun c_2 => ?_) (fun c_2 => ?_)
    · refine W.widen (k := 1) (n := 6) (by decide) (by decide) ?_
      exact kt_W (fun _ h => kt_of h) (W.vret hx hb hr (fun t ht hW => Or.inl ⟨_, rfl, ⟨rfl, ⟨c_1, c_2⟩⟩, ht⟩) (fun q h => by cases h) d_D_checkLog_22)
    · refine W.widen (k := 0) (n := 0) (by decide) (by decide) ?_
      obtain ⟨q9, hq9⟩ := hZ.2.use hown (k := 145) (tx := "there is no such log") (by decide)
      exact kt_throw (own := R_D) (xN := kt_N) (up := kt_U) (tx := "there is no such log") (q := q9) hx htr hb (hl.1.trans hml.symm) hown hne hlocks (by decide +kernel) (by decide +kernel) hZ.1.use (hw _ kb_128) (hw _ kb_129) (hw _ kb_10) hq9 (Nat.le_refl _) d_D_checkLog_12 d_D_checkLog_15 d_D_checkLog_16 d_D_checkLog_18 d_D_checkLog_21 (Nat.le_of_ble_eq_true rfl) (Nat.le_of_ble_eq_true rfl) (Nat.le_of_ble_eq_true rfl) (Nat.le_of_ble_eq_true rfl) (fun t x hW hX => Or.inr ⟨x, rfl, fun h => c_2 h.2, hX⟩)
set_option maxHeartbeats 4000000 in
set_option maxRecDepth 100000 in
theorem c_D_join (l : Launch) (hl0 : l.stackTraces = false) {dC : Nat → ClassId} {dI : Nat → Nat → Nat} {cI cJ cR : ClassId} {d ar nb : Nat} {ga ha oa : Nat → Nat} (hnd : (kad d ar nb ga ha oa).Nodup) (lg tm lf wr : Int32) (G : Nat → kGV) (p0 : Int32) (p1 : Int32) (sz : Nat) : MetT l y_D_join w_D_join ({ frames := 7, cells := 2, slots := 12, locals := 120 }) (kPreT (dC, dI) vwCl (kty cI cJ cR) [.ref d, .int p0, .int p1] sz (kw cI cJ cR d ar nb ga ha oa lg tm lf wr G)) (kt_Or kt_N (va_Qi (fun (r : Int32) (u : kDV) => (vp_in p0 8 ∧ vp_in p1 8) ∧ (r, u) = kd_join p0 p1 (lg, tm, lf, wr, G)) (fun u t => va_P (dC, dI) vwCl (kwv cI cJ cR d ar nb ga ha oa u) t.heap) (kA (kad d ar nb ga ha oa) sz)) (¬ (vp_in p0 8 ∧ vp_in p1 8))) 2 12 (kA (kad d ar nb ga ha oa) sz) := by
  refine kt_ofW (cc := b_D_join) (maxL := 4) (ret := (some .int)) (by decide) rfl ?_
  intro p e s m args below meth c s₁ B hml hv
  obtain ⟨⟨rfl, hsz, hP, hK⟩, hZ⟩ := hv
  have hx := B.exec
  have hb := B.bytes
  have hr := B.returns
  have hts := atoms_spec (ws := w_D_join) B.pre
  have hw := fun (w : Cond) (h : w ∈ kb_B) => hts w (List.mem_cons_of_mem _ h)
  have hown : s.vm.findClass R_D = some m.cls := findClass_of_methodNamed B.named
  have hlocks := B.notSynchronized
  have hne := B.noHandlers (hts _ List.mem_cons_self)
  have htr : e.platform.stackTraces = false := by rw [Example.NoTraceControls.admits_follows B.admits]; exact hl0
  subst hsz
  generalize hAe : kA (kad d ar nb ga ha oa) s.heap.size = A
  have hA : ∀ q : Nat, s.heap.size ≤ q → A q := fun q h => by rw [← hAe]; exact Or.inr h
  have hAL : ∀ q ∈ (kad d ar nb ga ha oa), A q := fun q h => by rw [← hAe]; exact Or.inl h
  have hS : va_S A s.heap s.heap [] := va_S.rf
  have hl := lv_entry ([.ref d, .int p0, .int p1]) (n := 4) (Nat.le_of_ble_eq_true rfl)
  rw [lg_entry_eq]
  generalize (lg_sl ([.ref d, .int p0, .int p1]) ++ List.replicate (4 - (lg_sl ([.ref d, .int p0, .int p1])).length) Slot.unset).toArray = ls at hl ⊢
  have hl : lv_has ls 4 [(0, .ref d), (1, .int p0), (2, .int p1)] := hl
  refine lv_aload_n hx hb d_D_join_0 rfl (lv_at hl 0 rfl) ?_
  refine lv_iload_n hx hb d_D_join_1 rfl (lv_at hl 1 rfl) ?_
  refine kt_callP (kt_runV (As := [.int p0]) (rest := []) ⟨hx, hb, hml, hown, hw⟩ (c_D_groupAt l hl0 hnd lg tm lf wr G p0 _) (cwV 1 hw (kb_V kb_124 kb_126 kb_s0 kb_1 kb_127) rfl rfl rfl (by decide +kernel) ⟨Nat.le_of_ble_eq_true rfl, Nat.le_of_ble_eq_true rfl⟩) (kPVT (va_recv hK hP (ci := 0) (q0 := 0) rfl rfl) hP hK hZ (fun _ _ h => h)) rfl rfl hl.1 rfl (lv_room (Nat.le_of_ble_eq_true rfl)) d_D_join_2 ⟨Nat.le_of_ble_eq_true rfl, Nat.le_of_ble_eq_true rfl⟩) hne hlocks (by decide) (by decide) (fun t x ht hW hX => Or.inr ⟨x, rfl, fun h => ht h.1, hX⟩) (fun v_1 hv_1 => ?_)
  obtain ⟨rfl, hp_p0⟩ := hv_1
  have hj : p0.toNatClampNeg < 8 := Nat.not_le.mp fun q => hp_p0 (Or.inr q)
  generalize hjj : p0.toNatClampNeg = j at hj ⊢
  rw [← kv_at G j] at hP
  generalize hGj : G j = gv at hP
  obtain ⟨x0, x1, x2, x3, x4, x5, x6⟩ := gv
  have hGu : va_up G j (x0, x1, x2, x3, x4, x5, x6) = G := by rw [← hGj]; exact kv_at G j
  refine lv_astore_n (lv' := [(3, .ref (ga j)), (0, .ref d), (1, .int p0), (2, .int p1)]) hx hb d_D_join_5 rfl hl (by decide) rfl (fun ls hl => ?_)
  refine lv_aload_n hx hb d_D_join_6 rfl (lv_at hl 1 rfl) ?_
  refine lv_iload_n hx hb d_D_join_7 rfl (lv_at hl 3 rfl) ?_
  refine kt_callP (kt_runV (As := [.int p1]) (rest := []) ⟨hx, hb, hml, hown, hw⟩ (c_D_checkMember l hl0 hnd lg tm lf wr (va_up G j (x0, x1, x2, x3, x4, x5, x6)) p1 _) (cwV 1 hw (kb_V kb_194 kb_196 kb_s2 kb_1 kb_197) rfl rfl rfl (by decide +kernel) ⟨Nat.le_of_ble_eq_true rfl, Nat.le_of_ble_eq_true rfl⟩) (kPVT (va_recv hK hP (ci := 0) (q0 := 0) rfl rfl) hP hK hZ (fun _ _ h => h)) rfl rfl hl.1 rfl (lv_room (Nat.le_of_ble_eq_true rfl)) d_D_join_8 ⟨Nat.le_of_ble_eq_true rfl, Nat.le_of_ble_eq_true rfl⟩) hne hlocks (by decide) (by decide) (fun t x ht hW hX => Or.inr ⟨x, rfl, fun h => ht h.2, hX⟩) (fun v_2 hv_2 => ?_)
  obtain ⟨rfl, hp_p1⟩ := hv_2
  refine lv_aload_n hx hb d_D_join_11 rfl (lv_at hl 0 rfl) ?_
  refine lv_iload_n hx hb d_D_join_12 rfl (lv_at hl 3 rfl) ?_
  refine lv_aload_n hx hb d_D_join_13 rfl (lv_at hl 1 rfl) ?_
  refine va_get (D := (dC, dI)) (ci := 0) (v := .int tm) (C := R_D) (T := F_D) (N := 4) hx hb hw i_D hown hK hP 0 rfl rfl 3 (by decide) (hw _ kb_85) (fun _ h9 => h9) rfl d_D_join_14 ?_
  refine kc_v (Wd := kwv cI cJ cR d ar nb ga ha oa) (va_runV (As := [.int p1, .int tm]) (rest := []) ⟨hx, hb, hml, hown, hw⟩ (c_G_takeIn l hnd lg tm lf wr G hj x0 x1 x2 x3 x4 x5 x6 p1 tm hp_p1 _) (cwV 2 hw (kb_V kb_199 kb_200 kb_201 kb_4 kb_202) rfl rfl rfl (by decide +kernel) ⟨Nat.le_of_ble_eq_true rfl, Nat.le_of_ble_eq_true rfl⟩) (kPV (va_recv hK hP (ci := 2) (q0 := (3 * j + 3)) rfl (kw_gG hj)) hP hK) rfl rfl hl.1 rfl (lv_room (Nat.le_of_ble_eq_true rfl)) d_D_join_17 ⟨Nat.le_of_ble_eq_true rfl, Nat.le_of_ble_eq_true rfl⟩) hS hA hAL (fun u_3 H locs hw hP _ _ hS => ?_)
  subst hw
  have hP : va_P (dC, dI) vwCl (kw cI cJ cR d ar nb ga ha oa lg tm lf wr (va_up G j (kg_take p1 tm (x0, x1, x2, x3, x4, x5, x6)))) _ := hP
  generalize hq_5 : kg_take p1 tm (x0, x1, x2, x3, x4, x5, x6) = z_5 at hP
  obtain ⟨y5_0, y5_1, y5_2, y5_3, y5_4, y5_5, y5_6⟩ := z_5
  refine lv_aload_n hx hb d_D_join_20 rfl (lv_at hl 0 rfl) ?_
  refine lv_aload_n hx hb d_D_join_21 rfl (lv_at hl 1 rfl) ?_
  refine va_get (D := (dC, dI)) (ci := 0) (v := .int tm) (C := R_D) (T := F_D) (N := 4) hx hb hw i_D hown hK hP 0 rfl rfl 3 (by decide) (hw _ kb_85) (fun _ h9 => h9) rfl d_D_join_22 ?_
  refine lv_aload_n hx hb d_D_join_25 rfl (lv_at hl 1 rfl) ?_
  refine va_get (D := (dC, dI)) (ci := 0) (v := .ref nb) (C := R_D) (T := F_D) (N := 4) hx hb hw i_D hown hK hP 0 rfl rfl 2 (by decide) (hw _ kb_84) (fun _ h9 => h9) rfl d_D_join_26 ?_
  refine kc_v (Wd := kwv cI cJ cR d ar nb ga ha oa) (va_runV (As := [.int tm, .ref nb]) (rest := []) ⟨hx, hb, hml, hown, hw⟩ (c_G_finishMixing l hnd lg tm lf wr G hj y5_0 y5_1 y5_2 y5_3 y5_4 y5_5 y5_6 tm _) (cwV 2 hw (kb_V kb_207 kb_208 kb_209 kb_4 kb_210) rfl rfl rfl (by decide +kernel) ⟨Nat.le_of_ble_eq_true rfl, Nat.le_of_ble_eq_true rfl⟩) (kPV (va_recv hK hP (ci := 2) (q0 := (3 * j + 3)) rfl (kw_gG hj)) hP hK) rfl rfl hl.1 rfl (lv_room (Nat.le_of_ble_eq_true rfl)) d_D_join_29 ⟨Nat.le_of_ble_eq_true rfl, Nat.le_of_ble_eq_true rfl⟩) hS hA hAL (fun u_6 H locs hw hP _ _ hS => ?_)
  subst hw
  have hP : va_P (dC, dI) vwCl (kw cI cJ cR d ar nb ga ha oa lg tm (kg_fin tm lf wr (y5_0, y5_1, y5_2, y5_3, y5_4, y5_5, y5_6)).2.1 (kg_fin tm lf wr (y5_0, y5_1, y5_2, y5_3, y5_4, y5_5, y5_6)).2.2 (va_up G j (kg_fin tm lf wr (y5_0, y5_1, y5_2, y5_3, y5_4, y5_5, y5_6)).1)) _ := hP
  generalize hq_8 : kg_fin tm lf wr (y5_0, y5_1, y5_2, y5_3, y5_4, y5_5, y5_6) = z_8 at hP
  obtain ⟨⟨y8_0, y8_1, y8_2, y8_3, y8_4, y8_5, y8_6⟩, lf_8, wr_8⟩ := z_8
  have hP : va_P (dC, dI) vwCl (kw cI cJ cR d ar nb ga ha oa lg tm lf_8 wr_8 (va_up G j (y8_0, y8_1, y8_2, y8_3, y8_4, y8_5, y8_6))) _ := hP
  refine lv_aload_n hx hb d_D_join_32 rfl (lv_at hl 0 rfl) ?_
  refine va_get (D := (dC, dI)) (ci := 2) (v := .int y8_1) (C := R_G) (T := F_G) (N := 7) hx hb hw i_G hown hK hP (3 * j + 3) (kw_gG hj) rfl 1 (by decide) (hw _ kb_55) (fun _ h9 => h9) rfl d_D_join_33 ?_
  refine lv_iconst (v := 2) hx hb d_D_join_36 (by decide) ?_
  refine lv_icmp_ne (tgt := 47) hx hb d_D_join_37 (by decide) (fun c_1 => ?_) (fun c_1 => ?_)
  · refine lv_iconst (v := (-1)) hx hb d_D_join_47 (by decide) ?_
    refine W.widen (k := 2) (n := 12) (by decide) (by decide) ?_
    exact kt_W (fun _ h => kt_of h) (W.iret (v := (-1)) hx hb hr (fun t ht hW => Or.inl ⟨⟨_, (lg, tm, lf_8, wr_8, (va_up G j (y8_0, y8_1, y8_2, y8_3, y8_4, y8_5, y8_6))), rfl, ⟨⟨hp_p0, hp_p1⟩, by first | (simp only [kd_join, hjj, hGj, hGu, hq_5, hq_8, if_neg c_1]; done) | (simp [kd_join, hjj, hGj, hGu, hq_5, hq_8, c_1]; done)⟩, by show va_P _ _ _ t.heap; rw [ht]; exact hP⟩, hS.F ht⟩) hS.2.2 d_D_join_48)
  · refine lv_aload_n hx hb d_D_join_40 rfl (lv_at hl 0 rfl) ?_
    refine va_get (D := (dC, dI)) (ci := 2) (v := .int y8_0) (C := R_G) (T := F_G) (N := 7) hx hb hw i_G hown hK hP (3 * j + 3) (kw_gG hj) rfl 0 (by decide) (hw _ kb_52) (fun _ h9 => h9) rfl d_D_join_41 ?_
    refine lv_goto (tgt := 48) hx hb d_D_join_44 (by decide) ?_
    refine W.widen (k := 2) (n := 12) (by decide) (by decide) ?_
    exact kt_W (fun _ h => kt_of h) (W.iret (v := y8_0) hx hb hr (fun t ht hW => Or.inl ⟨⟨_, (lg, tm, lf_8, wr_8, (va_up G j (y8_0, y8_1, y8_2, y8_3, y8_4, y8_5, y8_6))), rfl, ⟨⟨hp_p0, hp_p1⟩, by first | (simp only [kd_join, hjj, hGj, hGu, hq_5, hq_8, if_pos c_1]; done) | (simp [kd_join, hjj, hGj, hGu, hq_5, hq_8, c_1]; done)⟩, by show va_P _ _ _ t.heap; rw [ht]; exact hP⟩, hS.F ht⟩) hS.2.2 d_D_join_48)
set_option maxHeartbeats 4000000 in
set_option maxRecDepth 100000 in
theorem c_D_leave (l : Launch) (hl0 : l.stackTraces = false) {dC : Nat → ClassId} {dI : Nat → Nat → Nat} {cI cJ cR : ClassId} {d ar nb : Nat} {ga ha oa : Nat → Nat} (hnd : (kad d ar nb ga ha oa).Nodup) (lg tm lf wr : Int32) (G : Nat → kGV) (p0 : Int32) (p1 : Int32) (sz : Nat) : MetT l y_D_leave w_D_leave ({ frames := 7, cells := 2, slots := 12, locals := 120 }) (kPreT (dC, dI) vwCl (kty cI cJ cR) [.ref d, .int p0, .int p1] sz (kw cI cJ cR d ar nb ga ha oa lg tm lf wr G)) (kt_Or kt_N (va_Qi (fun (r : Int32) (u : kDV) => (vp_in p0 8 ∧ vp_in p1 8) ∧ (r, u) = kd_leave p0 p1 (lg, tm, lf, wr, G)) (fun u t => va_P (dC, dI) vwCl (kwv cI cJ cR d ar nb ga ha oa u) t.heap) (kA (kad d ar nb ga ha oa) sz)) (¬ (vp_in p0 8 ∧ vp_in p1 8))) 2 12 (kA (kad d ar nb ga ha oa) sz) := by
  refine kt_ofW (cc := b_D_leave) (maxL := 4) (ret := (some .int)) (by decide) rfl ?_
  intro p e s m args below meth c s₁ B hml hv
  obtain ⟨⟨rfl, hsz, hP, hK⟩, hZ⟩ := hv
  have hx := B.exec
  have hb := B.bytes
  have hr := B.returns
  have hts := atoms_spec (ws := w_D_leave) B.pre
  have hw := fun (w : Cond) (h : w ∈ kb_B) => hts w (List.mem_cons_of_mem _ h)
  have hown : s.vm.findClass R_D = some m.cls := findClass_of_methodNamed B.named
  have hlocks := B.notSynchronized
  have hne := B.noHandlers (hts _ List.mem_cons_self)
  have htr : e.platform.stackTraces = false := by rw [Example.NoTraceControls.admits_follows B.admits]; exact hl0
  subst hsz
  generalize hAe : kA (kad d ar nb ga ha oa) s.heap.size = A
  have hA : ∀ q : Nat, s.heap.size ≤ q → A q := fun q h => by rw [← hAe]; exact Or.inr h
  have hAL : ∀ q ∈ (kad d ar nb ga ha oa), A q := fun q h => by rw [← hAe]; exact Or.inl h
  have hS : va_S A s.heap s.heap [] := va_S.rf
  have hl := lv_entry ([.ref d, .int p0, .int p1]) (n := 4) (Nat.le_of_ble_eq_true rfl)
  rw [lg_entry_eq]
  generalize (lg_sl ([.ref d, .int p0, .int p1]) ++ List.replicate (4 - (lg_sl ([.ref d, .int p0, .int p1])).length) Slot.unset).toArray = ls at hl ⊢
  have hl : lv_has ls 4 [(0, .ref d), (1, .int p0), (2, .int p1)] := hl
  refine lv_aload_n hx hb d_D_leave_0 rfl (lv_at hl 0 rfl) ?_
  refine lv_iload_n hx hb d_D_leave_1 rfl (lv_at hl 1 rfl) ?_
  refine kt_callP (kt_runV (As := [.int p0]) (rest := []) ⟨hx, hb, hml, hown, hw⟩ (c_D_groupAt l hl0 hnd lg tm lf wr G p0 _) (cwV 1 hw (kb_V kb_124 kb_126 kb_s0 kb_1 kb_127) rfl rfl rfl (by decide +kernel) ⟨Nat.le_of_ble_eq_true rfl, Nat.le_of_ble_eq_true rfl⟩) (kPVT (va_recv hK hP (ci := 0) (q0 := 0) rfl rfl) hP hK hZ (fun _ _ h => h)) rfl rfl hl.1 rfl (lv_room (Nat.le_of_ble_eq_true rfl)) d_D_leave_2 ⟨Nat.le_of_ble_eq_true rfl, Nat.le_of_ble_eq_true rfl⟩) hne hlocks (by decide) (by decide) (fun t x ht hW hX => Or.inr ⟨x, rfl, fun h => ht h.1, hX⟩) (fun v_1 hv_1 => ?_)
  obtain ⟨rfl, hp_p0⟩ := hv_1
  have hj : p0.toNatClampNeg < 8 := Nat.not_le.mp fun q => hp_p0 (Or.inr q)
  generalize hjj : p0.toNatClampNeg = j at hj ⊢
  rw [← kv_at G j] at hP
  generalize hGj : G j = gv at hP
  obtain ⟨x0, x1, x2, x3, x4, x5, x6⟩ := gv
  have hGu : va_up G j (x0, x1, x2, x3, x4, x5, x6) = G := by rw [← hGj]; exact kv_at G j
  refine lv_astore_n (lv' := [(3, .ref (ga j)), (0, .ref d), (1, .int p0), (2, .int p1)]) hx hb d_D_leave_5 rfl hl (by decide) rfl (fun ls hl => ?_)
  refine lv_aload_n hx hb d_D_leave_6 rfl (lv_at hl 1 rfl) ?_
  refine lv_iload_n hx hb d_D_leave_7 rfl (lv_at hl 3 rfl) ?_
  refine kt_callP (kt_runV (As := [.int p1]) (rest := []) ⟨hx, hb, hml, hown, hw⟩ (c_D_checkMember l hl0 hnd lg tm lf wr (va_up G j (x0, x1, x2, x3, x4, x5, x6)) p1 _) (cwV 1 hw (kb_V kb_194 kb_196 kb_s2 kb_1 kb_197) rfl rfl rfl (by decide +kernel) ⟨Nat.le_of_ble_eq_true rfl, Nat.le_of_ble_eq_true rfl⟩) (kPVT (va_recv hK hP (ci := 0) (q0 := 0) rfl rfl) hP hK hZ (fun _ _ h => h)) rfl rfl hl.1 rfl (lv_room (Nat.le_of_ble_eq_true rfl)) d_D_leave_8 ⟨Nat.le_of_ble_eq_true rfl, Nat.le_of_ble_eq_true rfl⟩) hne hlocks (by decide) (by decide) (fun t x ht hW hX => Or.inr ⟨x, rfl, fun h => ht h.2, hX⟩) (fun v_2 hv_2 => ?_)
  obtain ⟨rfl, hp_p1⟩ := hv_2
  refine lv_aload_n hx hb d_D_leave_11 rfl (lv_at hl 0 rfl) ?_
  refine lv_iload_n hx hb d_D_leave_12 rfl (lv_at hl 3 rfl) ?_
  refine vp_callSi (W.runV (As := [.int p1]) (rest := []) ⟨hx, hb, hml, hown, hw⟩ (c_G_has l hnd lg tm lf wr G hj x0 x1 x2 x3 x4 x5 x6 p1 _) (cwV 1 hw (kb_V kb_230 kb_231 kb_232 kb_4 kb_233) rfl rfl rfl (by decide +kernel) ⟨Nat.le_of_ble_eq_true rfl, Nat.le_of_ble_eq_true rfl⟩) (kPV (va_recv hK hP (ci := 2) (q0 := (3 * j + 3)) rfl (kw_gG hj)) hP hK) rfl rfl hl.1 rfl (lv_room (Nat.le_of_ble_eq_true rfl)) d_D_leave_13 ⟨Nat.le_of_ble_eq_true rfl, Nat.le_of_ble_eq_true rfl⟩) (fun r_3 er_3 => ?_)
  subst er_3
  refine lv_if_ne (tgt := 22) hx hb d_D_leave_16 (by decide) (fun c_1 => ?_) (fun c_1 => ?_)
  · refine lv_aload_n hx hb d_D_leave_22 rfl (lv_at hl 0 rfl) ?_
    refine lv_iconst (v := 1) hx hb d_D_leave_23 (by decide) ?_
    refine lv_iload_n hx hb d_D_leave_24 rfl (lv_at hl 3 rfl) ?_
    refine lv_ishl hx hb d_D_leave_25 ?_
    refine lv_aload_n hx hb d_D_leave_26 rfl (lv_at hl 1 rfl) ?_
    refine va_get (D := (dC, dI)) (ci := 0) (v := .int tm) (C := R_D) (T := F_D) (N := 4) hx hb hw i_D hown hK hP 0 rfl rfl 3 (by decide) (hw _ kb_85) (fun _ h9 => h9) rfl d_D_leave_27 ?_
    refine kc_v (Wd := kwv cI cJ cR d ar nb ga ha oa) (va_runV (As := [.int ((1 : Int32) <<< (p1 &&& 31)), .int tm]) (rest := []) ⟨hx, hb, hml, hown, hw⟩ (c_G_putOut l hnd lg tm lf wr G hj x0 x1 x2 x3 x4 x5 x6 ((1 : Int32) <<< (p1 &&& 31)) tm _) (cwV 2 hw (kb_V kb_234 kb_235 kb_236 kb_4 kb_237) rfl rfl rfl (by decide +kernel) ⟨Nat.le_of_ble_eq_true rfl, Nat.le_of_ble_eq_true rfl⟩) (kPV (va_recv hK hP (ci := 2) (q0 := (3 * j + 3)) rfl (kw_gG hj)) hP hK) rfl rfl hl.1 rfl (lv_room (Nat.le_of_ble_eq_true rfl)) d_D_leave_30 ⟨Nat.le_of_ble_eq_true rfl, Nat.le_of_ble_eq_true rfl⟩) hS hA hAL (fun u_4 H locs hw hP _ _ hS => ?_)
    subst hw
    have hP : va_P (dC, dI) vwCl (kw cI cJ cR d ar nb ga ha oa lg tm lf wr (va_up G j (kg_out ((1 : Int32) <<< (p1 &&& 31)) tm (x0, x1, x2, x3, x4, x5, x6)))) _ := hP
    generalize hq_6 : kg_out ((1 : Int32) <<< (p1 &&& 31)) tm (x0, x1, x2, x3, x4, x5, x6) = z_6 at hP
    obtain ⟨y6_0, y6_1, y6_2, y6_3, y6_4, y6_5, y6_6⟩ := z_6
    refine lv_aload_n hx hb d_D_leave_33 rfl (lv_at hl 0 rfl) ?_
    refine lv_aload_n hx hb d_D_leave_34 rfl (lv_at hl 1 rfl) ?_
    refine va_get (D := (dC, dI)) (ci := 0) (v := .int tm) (C := R_D) (T := F_D) (N := 4) hx hb hw i_D hown hK hP 0 rfl rfl 3 (by decide) (hw _ kb_85) (fun _ h9 => h9) rfl d_D_leave_35 ?_
    refine lv_aload_n hx hb d_D_leave_38 rfl (lv_at hl 1 rfl) ?_
    refine va_get (D := (dC, dI)) (ci := 0) (v := .ref nb) (C := R_D) (T := F_D) (N := 4) hx hb hw i_D hown hK hP 0 rfl rfl 2 (by decide) (hw _ kb_84) (fun _ h9 => h9) rfl d_D_leave_39 ?_
    refine kc_v (Wd := kwv cI cJ cR d ar nb ga ha oa) (va_runV (As := [.int tm, .ref nb]) (rest := []) ⟨hx, hb, hml, hown, hw⟩ (c_G_finishMixing l hnd lg tm lf wr G hj y6_0 y6_1 y6_2 y6_3 y6_4 y6_5 y6_6 tm _) (cwV 2 hw (kb_V kb_207 kb_208 kb_209 kb_4 kb_210) rfl rfl rfl (by decide +kernel) ⟨Nat.le_of_ble_eq_true rfl, Nat.le_of_ble_eq_true rfl⟩) (kPV (va_recv hK hP (ci := 2) (q0 := (3 * j + 3)) rfl (kw_gG hj)) hP hK) rfl rfl hl.1 rfl (lv_room (Nat.le_of_ble_eq_true rfl)) d_D_leave_42 ⟨Nat.le_of_ble_eq_true rfl, Nat.le_of_ble_eq_true rfl⟩) hS hA hAL (fun u_7 H locs hw hP _ _ hS => ?_)
    subst hw
    have hP : va_P (dC, dI) vwCl (kw cI cJ cR d ar nb ga ha oa lg tm (kg_fin tm lf wr (y6_0, y6_1, y6_2, y6_3, y6_4, y6_5, y6_6)).2.1 (kg_fin tm lf wr (y6_0, y6_1, y6_2, y6_3, y6_4, y6_5, y6_6)).2.2 (va_up G j (kg_fin tm lf wr (y6_0, y6_1, y6_2, y6_3, y6_4, y6_5, y6_6)).1)) _ := hP
    generalize hq_9 : kg_fin tm lf wr (y6_0, y6_1, y6_2, y6_3, y6_4, y6_5, y6_6) = z_9 at hP
    obtain ⟨⟨y9_0, y9_1, y9_2, y9_3, y9_4, y9_5, y9_6⟩, lf_9, wr_9⟩ := z_9
    have hP : va_P (dC, dI) vwCl (kw cI cJ cR d ar nb ga ha oa lg tm lf_9 wr_9 (va_up G j (y9_0, y9_1, y9_2, y9_3, y9_4, y9_5, y9_6))) _ := hP
    refine lv_iconst (v := 1) hx hb d_D_leave_45 (by decide) ?_
    refine W.widen (k := 2) (n := 12) (by decide) (by decide) ?_
    exact kt_W (fun _ h => kt_of h) (W.iret (v := 1) hx hb hr (fun t ht hW => Or.inl ⟨⟨_, (lg, tm, lf_9, wr_9, (va_up G j (y9_0, y9_1, y9_2, y9_3, y9_4, y9_5, y9_6))), rfl, ⟨⟨hp_p0, hp_p1⟩, by first | (simp only [kd_leave, hjj, hGj, hGu, if_neg c_1, hq_6, hq_9]; done) | (simp [kd_leave, hjj, hGj, hGu, c_1, hq_6, hq_9]; done)⟩, by show va_P _ _ _ t.heap; rw [ht]; exact hP⟩, hS.F ht⟩) hS.2.2 d_D_leave_46)
  · refine lv_bipush (v := (-8)) hx hb d_D_leave_19 (by decide) ?_
    refine W.widen (k := 2) (n := 12) (by decide) (by decide) ?_
    exact kt_W (fun _ h => kt_of h) (W.iret (v := (-8)) hx hb hr (fun t ht hW => Or.inl ⟨⟨_, (lg, tm, lf, wr, (va_up G j (x0, x1, x2, x3, x4, x5, x6))), rfl, ⟨⟨hp_p0, hp_p1⟩, by first | (simp only [kd_leave, hjj, hGj, hGu, if_pos c_1]; done) | (simp [kd_leave, hjj, hGj, hGu, c_1]; done)⟩, by show va_P _ _ _ t.heap; rw [ht]; exact hP⟩, hS.F ht⟩) hS.2.2 d_D_leave_21)
set_option maxHeartbeats 4000000 in
set_option maxRecDepth 100000 in
theorem c_D_beat (l : Launch) (hl0 : l.stackTraces = false) {dC : Nat → ClassId} {dI : Nat → Nat → Nat} {cI cJ cR : ClassId} {d ar nb : Nat} {ga ha oa : Nat → Nat} (hnd : (kad d ar nb ga ha oa).Nodup) (lg tm lf wr : Int32) (G : Nat → kGV) (p0 : Int32) (p1 : Int32) (p2 : Int32) (sz : Nat) : MetT l y_D_beat w_D_beat ({ frames := 7, cells := 2, slots := 12, locals := 120 }) (kPreT (dC, dI) vwCl (kty cI cJ cR) [.ref d, .int p0, .int p1, .int p2] sz (kw cI cJ cR d ar nb ga ha oa lg tm lf wr G)) (kt_Or kt_N (va_Qi (fun (r : Int32) (u : kDV) => (vp_in p0 8 ∧ vp_in p1 8) ∧ (r, u) = kd_beat p0 p1 p2 (lg, tm, lf, wr, G)) (fun u t => va_P (dC, dI) vwCl (kwv cI cJ cR d ar nb ga ha oa u) t.heap) (kA (kad d ar nb ga ha oa) sz)) (¬ (vp_in p0 8 ∧ vp_in p1 8))) 2 12 (kA (kad d ar nb ga ha oa) sz) := by
  refine kt_ofW (cc := b_D_beat) (maxL := 5) (ret := (some .int)) (by decide) rfl ?_
  intro p e s m args below meth c s₁ B hml hv
  obtain ⟨⟨rfl, hsz, hP, hK⟩, hZ⟩ := hv
  have hx := B.exec
  have hb := B.bytes
  have hr := B.returns
  have hts := atoms_spec (ws := w_D_beat) B.pre
  have hw := fun (w : Cond) (h : w ∈ kb_B) => hts w (List.mem_cons_of_mem _ h)
  have hown : s.vm.findClass R_D = some m.cls := findClass_of_methodNamed B.named
  have hlocks := B.notSynchronized
  have hne := B.noHandlers (hts _ List.mem_cons_self)
  have htr : e.platform.stackTraces = false := by rw [Example.NoTraceControls.admits_follows B.admits]; exact hl0
  subst hsz
  generalize hAe : kA (kad d ar nb ga ha oa) s.heap.size = A
  have hA : ∀ q : Nat, s.heap.size ≤ q → A q := fun q h => by rw [← hAe]; exact Or.inr h
  have hAL : ∀ q ∈ (kad d ar nb ga ha oa), A q := fun q h => by rw [← hAe]; exact Or.inl h
  have hS : va_S A s.heap s.heap [] := va_S.rf
  have hl := lv_entry ([.ref d, .int p0, .int p1, .int p2]) (n := 5) (Nat.le_of_ble_eq_true rfl)
  rw [lg_entry_eq]
  generalize (lg_sl ([.ref d, .int p0, .int p1, .int p2]) ++ List.replicate (5 - (lg_sl ([.ref d, .int p0, .int p1, .int p2])).length) Slot.unset).toArray = ls at hl ⊢
  have hl : lv_has ls 5 [(0, .ref d), (1, .int p0), (2, .int p1), (3, .int p2)] := hl
  refine lv_aload_n hx hb d_D_beat_0 rfl (lv_at hl 0 rfl) ?_
  refine lv_iload_n hx hb d_D_beat_1 rfl (lv_at hl 1 rfl) ?_
  refine kt_callP (kt_runV (As := [.int p0]) (rest := []) ⟨hx, hb, hml, hown, hw⟩ (c_D_groupAt l hl0 hnd lg tm lf wr G p0 _) (cwV 1 hw (kb_V kb_124 kb_126 kb_s0 kb_1 kb_127) rfl rfl rfl (by decide +kernel) ⟨Nat.le_of_ble_eq_true rfl, Nat.le_of_ble_eq_true rfl⟩) (kPVT (va_recv hK hP (ci := 0) (q0 := 0) rfl rfl) hP hK hZ (fun _ _ h => h)) rfl rfl hl.1 rfl (lv_room (Nat.le_of_ble_eq_true rfl)) d_D_beat_2 ⟨Nat.le_of_ble_eq_true rfl, Nat.le_of_ble_eq_true rfl⟩) hne hlocks (by decide) (by decide) (fun t x ht hW hX => Or.inr ⟨x, rfl, fun h => ht h.1, hX⟩) (fun v_1 hv_1 => ?_)
  obtain ⟨rfl, hp_p0⟩ := hv_1
  have hj : p0.toNatClampNeg < 8 := Nat.not_le.mp fun q => hp_p0 (Or.inr q)
  generalize hjj : p0.toNatClampNeg = j at hj ⊢
  rw [← kv_at G j] at hP
  generalize hGj : G j = gv at hP
  obtain ⟨x0, x1, x2, x3, x4, x5, x6⟩ := gv
  have hGu : va_up G j (x0, x1, x2, x3, x4, x5, x6) = G := by rw [← hGj]; exact kv_at G j
  refine lv_astore (lv' := [(4, .ref (ga j)), (0, .ref d), (1, .int p0), (2, .int p1), (3, .int p2)]) hx hb d_D_beat_5 hl (by decide) rfl (fun ls hl => ?_)
  refine lv_aload_n hx hb d_D_beat_7 rfl (lv_at hl 1 rfl) ?_
  refine lv_iload_n hx hb d_D_beat_8 rfl (lv_at hl 3 rfl) ?_
  refine kt_callP (kt_runV (As := [.int p1]) (rest := []) ⟨hx, hb, hml, hown, hw⟩ (c_D_checkMember l hl0 hnd lg tm lf wr (va_up G j (x0, x1, x2, x3, x4, x5, x6)) p1 _) (cwV 1 hw (kb_V kb_194 kb_196 kb_s2 kb_1 kb_197) rfl rfl rfl (by decide +kernel) ⟨Nat.le_of_ble_eq_true rfl, Nat.le_of_ble_eq_true rfl⟩) (kPVT (va_recv hK hP (ci := 0) (q0 := 0) rfl rfl) hP hK hZ (fun _ _ h => h)) rfl rfl hl.1 rfl (lv_room (Nat.le_of_ble_eq_true rfl)) d_D_beat_9 ⟨Nat.le_of_ble_eq_true rfl, Nat.le_of_ble_eq_true rfl⟩) hne hlocks (by decide) (by decide) (fun t x ht hW hX => Or.inr ⟨x, rfl, fun h => ht h.2, hX⟩) (fun v_2 hv_2 => ?_)
  obtain ⟨rfl, hp_p1⟩ := hv_2
  refine lv_aload hx hb d_D_beat_12 (lv_at hl 0 rfl) ?_
  refine lv_iload_n hx hb d_D_beat_14 rfl (lv_at hl 3 rfl) ?_
  refine vp_callSi (W.runV (As := [.int p1]) (rest := []) ⟨hx, hb, hml, hown, hw⟩ (c_G_has l hnd lg tm lf wr G hj x0 x1 x2 x3 x4 x5 x6 p1 _) (cwV 1 hw (kb_V kb_230 kb_231 kb_232 kb_4 kb_233) rfl rfl rfl (by decide +kernel) ⟨Nat.le_of_ble_eq_true rfl, Nat.le_of_ble_eq_true rfl⟩) (kPV (va_recv hK hP (ci := 2) (q0 := (3 * j + 3)) rfl (kw_gG hj)) hP hK) rfl rfl hl.1 rfl (lv_room (Nat.le_of_ble_eq_true rfl)) d_D_beat_15 ⟨Nat.le_of_ble_eq_true rfl, Nat.le_of_ble_eq_true rfl⟩) (fun r_3 er_3 => ?_)
  subst er_3
  refine lv_if_ne (tgt := 24) hx hb d_D_beat_18 (by decide) (fun c_1 => ?_) (fun c_1 => ?_)
  · refine lv_iload_n hx hb d_D_beat_24 rfl (lv_at hl 4 rfl) ?_
    refine lv_aload hx hb d_D_beat_25 (lv_at hl 0 rfl) ?_
    refine va_get (D := (dC, dI)) (ci := 2) (v := .int x0) (C := R_G) (T := F_G) (N := 7) hx hb hw i_G hown hK hP (3 * j + 3) (kw_gG hj) rfl 0 (by decide) (hw _ kb_52) (fun _ h9 => h9) rfl d_D_beat_27 ?_
    refine lv_icmp_eq (tgt := 36) hx hb d_D_beat_30 (by decide) (fun c_2 => ?_) (fun c_2 => ?_)
    · refine lv_aload hx hb d_D_beat_36 (lv_at hl 0 rfl) ?_
      refine va_get (D := (dC, dI)) (ci := 2) (v := .ref (ha j)) (C := R_G) (T := F_G) (N := 7) hx hb hw i_G hown hK hP (3 * j + 3) (kw_gG hj) rfl 5 (by decide) (hw _ kb_62) (fun _ h9 => h9) rfl d_D_beat_38 ?_
      refine lv_iload_n hx hb d_D_beat_41 rfl (lv_at hl 3 rfl) ?_
      refine lv_aload_n hx hb d_D_beat_42 rfl (lv_at hl 1 rfl) ?_
      refine va_get (D := (dC, dI)) (ci := 0) (v := .int tm) (C := R_D) (T := F_D) (N := 4) hx hb hw i_D hown hK hP 0 rfl rfl 3 (by decide) (hw _ kb_85) (fun _ h9 => h9) rfl d_D_beat_43 ?_
      refine va_iast hx hb hK hP (kw_D hnd hAL) hS (3 * j + 4) 0 (kw_gH hj) rfl hp_p1 d_D_beat_46 (fun H locs hP _ hS => ?_)
      have hP : va_P (dC, dI) vwCl (kw cI cJ cR d ar nb ga ha oa lg tm lf wr (va_up G j (x0, x1, x2, x3, x4, upd x5 p1.toNatClampNeg tm, x6))) H := by rw [← kw_sH hj]; exact hP
      refine lv_aload hx hb d_D_beat_47 (lv_at hl 0 rfl) ?_
      refine lv_iload_n hx hb d_D_beat_49 rfl (lv_at hl 3 rfl) ?_
      refine vp_callSi (W.runV (As := [.int p1]) (rest := []) ⟨hx, hb, hml, hown, hw⟩ (c_G_hasJoined l hnd lg tm lf wr G hj x0 x1 x2 x3 x4 (upd x5 p1.toNatClampNeg tm) x6 p1 _) (cwV 1 hw (kb_V kb_245 kb_246 kb_247 kb_4 kb_248) rfl rfl rfl (by decide +kernel) ⟨Nat.le_of_ble_eq_true rfl, Nat.le_of_ble_eq_true rfl⟩) (kPV (va_recv hK hP (ci := 2) (q0 := (3 * j + 3)) rfl (kw_gG hj)) hP hK) rfl rfl hl.1 rfl (lv_room (Nat.le_of_ble_eq_true rfl)) d_D_beat_50 ⟨Nat.le_of_ble_eq_true rfl, Nat.le_of_ble_eq_true rfl⟩) (fun r_4 er_4 => ?_)
      subst er_4
      refine lv_if_eq (tgt := 60) hx hb d_D_beat_53 (by decide) (fun c_3 => ?_) (fun c_3 => ?_)
      · refine lv_iconst (v := 1) hx hb d_D_beat_60 (by decide) ?_
        refine W.widen (k := 2) (n := 12) (by decide) (by decide) ?_
        exact kt_W (fun _ h => kt_of h) (W.iret (v := 1) hx hb hr (fun t ht hW => Or.inl ⟨⟨_, (lg, tm, lf, wr, (va_up G j (x0, x1, x2, x3, x4, upd x5 p1.toNatClampNeg tm, x6))), rfl, ⟨⟨hp_p0, hp_p1⟩, by first | (simp only [kd_beat, kg_hear, hjj, hGj, hGu, if_neg c_1, if_pos c_2, if_pos c_3]; done) | (simp [kd_beat, kg_hear, hjj, hGj, hGu, c_1, c_2, c_3]; done)⟩, by show va_P _ _ _ t.heap; rw [ht]; exact hP⟩, hS.F ht⟩) hS.2.2 d_D_beat_61)
      · refine lv_iconst (v := 0) hx hb d_D_beat_56 (by decide) ?_
        refine lv_goto (tgt := 61) hx hb d_D_beat_57 (by decide) ?_
        refine W.widen (k := 2) (n := 12) (by decide) (by decide) ?_
        exact kt_W (fun _ h => kt_of h) (W.iret (v := 0) hx hb hr (fun t ht hW => Or.inl ⟨⟨_, (lg, tm, lf, wr, (va_up G j (x0, x1, x2, x3, x4, upd x5 p1.toNatClampNeg tm, x6))), rfl, ⟨⟨hp_p0, hp_p1⟩, by first | (simp only [kd_beat, kg_hear, hjj, hGj, hGu, if_neg c_1, if_pos c_2, if_neg c_3]; done) | (simp [kd_beat, kg_hear, hjj, hGj, hGu, c_1, c_2, c_3]; done)⟩, by show va_P _ _ _ t.heap; rw [ht]; exact hP⟩, hS.F ht⟩) hS.2.2 d_D_beat_61)
    · refine lv_bipush (v := (-9)) hx hb d_D_beat_33 (by decide) ?_
      refine W.widen (k := 2) (n := 12) (by decide) (by decide) ?_
      exact kt_W (fun _ h => kt_of h) (W.iret (v := (-9)) hx hb hr (fun t ht hW => Or.inl ⟨⟨_, (lg, tm, lf, wr, (va_up G j (x0, x1, x2, x3, x4, x5, x6))), rfl, ⟨⟨hp_p0, hp_p1⟩, by first | (simp only [kd_beat, kg_hear, hjj, hGj, hGu, if_neg c_1, if_neg c_2]; done) | (simp [kd_beat, kg_hear, hjj, hGj, hGu, c_1, c_2]; done)⟩, by show va_P _ _ _ t.heap; rw [ht]; exact hP⟩, hS.F ht⟩) hS.2.2 d_D_beat_35)
  · refine lv_bipush (v := (-8)) hx hb d_D_beat_21 (by decide) ?_
    refine W.widen (k := 2) (n := 12) (by decide) (by decide) ?_
    exact kt_W (fun _ h => kt_of h) (W.iret (v := (-8)) hx hb hr (fun t ht hW => Or.inl ⟨⟨_, (lg, tm, lf, wr, (va_up G j (x0, x1, x2, x3, x4, x5, x6))), rfl, ⟨⟨hp_p0, hp_p1⟩, by first | (simp only [kd_beat, kg_hear, hjj, hGj, hGu, if_pos c_1]; done) | (simp [kd_beat, kg_hear, hjj, hGj, hGu, c_1]; done)⟩, by show va_P _ _ _ t.heap; rw [ht]; exact hP⟩, hS.F ht⟩) hS.2.2 d_D_beat_23)
end
section
set_option maxHeartbeats 4000000 in
set_option maxRecDepth 100000 in
theorem c_D_commit (l : Launch) (hl0 : l.stackTraces = false) {dC : Nat → ClassId} {dI : Nat → Nat → Nat} {cI cJ cR : ClassId} {d ar nb : Nat} {ga ha oa : Nat → Nat} (hnd : (kad d ar nb ga ha oa).Nodup) (lg tm lf wr : Int32) (G : Nat → kGV) (p0 : Int32) (p1 : Int32) (p2 : Int32) (p3 : Int32) (p4 : Int64) (hlg : ∃ n : Nat, n ≤ 8 ∧ lg = nI n) (sz : Nat) : MetT l y_D_commit w_D_commit ({ frames := 7, cells := 4, slots := 24, locals := 120 }) (kPreT (dC, dI) vwCl (kty cI cJ cR) [.ref d, .int p0, .int p1, .int p2, .int p3, .long p4] sz (kw cI cJ cR d ar nb ga ha oa lg tm lf wr G)) (kt_Or kt_N (va_Qi (fun (r : Int32) (u : kDV) => (vp_in p0 8 ∧ vp_in p1 8 ∧ (¬ p3 < 0 ∧ p3 < lg) ∧ ¬ p4 < 0) ∧ (r, u) = kd_commit p0 p1 p2 p3 p4 (lg, tm, lf, wr, G)) (fun u t => va_P (dC, dI) vwCl (kwv cI cJ cR d ar nb ga ha oa u) t.heap) (kA (kad d ar nb ga ha oa) sz)) (¬ (vp_in p0 8 ∧ vp_in p1 8 ∧ (¬ p3 < 0 ∧ p3 < lg) ∧ ¬ p4 < 0))) 4 24 (kA (kad d ar nb ga ha oa) sz) := by
  refine kt_ofW (cc := b_D_commit) (maxL := 9) (ret := (some .int)) (by decide) rfl ?_
  intro p e s m args below meth c s₁ B hml hv
  obtain ⟨⟨rfl, hsz, hP, hK⟩, hZ⟩ := hv
  have hx := B.exec
  have hb := B.bytes
  have hr := B.returns
  have hts := atoms_spec (ws := w_D_commit) B.pre
  have hw := fun (w : Cond) (h : w ∈ kb_B) => hts w (List.mem_cons_of_mem _ h)
  have hown : s.vm.findClass R_D = some m.cls := findClass_of_methodNamed B.named
  have hlocks := B.notSynchronized
  have hne := B.noHandlers (hts _ List.mem_cons_self)
  have htr : e.platform.stackTraces = false := by rw [Example.NoTraceControls.admits_follows B.admits]; exact hl0
  subst hsz
  generalize hAe : kA (kad d ar nb ga ha oa) s.heap.size = A
  have hA : ∀ q : Nat, s.heap.size ≤ q → A q := fun q h => by rw [← hAe]; exact Or.inr h
  have hAL : ∀ q ∈ (kad d ar nb ga ha oa), A q := fun q h => by rw [← hAe]; exact Or.inl h
  have hS : va_S A s.heap s.heap [] := va_S.rf
  have hl := lv_entry ([.ref d, .int p0, .int p1, .int p2, .int p3, .long p4]) (n := 9) (Nat.le_of_ble_eq_true rfl)
  rw [lg_entry_eq]
  generalize (lg_sl ([.ref d, .int p0, .int p1, .int p2, .int p3, .long p4]) ++ List.replicate (9 - (lg_sl ([.ref d, .int p0, .int p1, .int p2, .int p3, .long p4])).length) Slot.unset).toArray = ls at hl ⊢
  have hl : lv_has ls 9 [(0, .ref d), (1, .int p0), (2, .int p1), (3, .int p2), (4, .int p3), (5, .long p4)] := hl
  refine lv_aload_n hx hb d_D_commit_0 rfl (lv_at hl 0 rfl) ?_
  refine lv_iload_n hx hb d_D_commit_1 rfl (lv_at hl 1 rfl) ?_
  refine kt_callP (kt_runV (As := [.int p0]) (rest := []) ⟨hx, hb, hml, hown, hw⟩ (c_D_groupAt l hl0 hnd lg tm lf wr G p0 _) (cwV 1 hw (kb_V kb_124 kb_126 kb_s0 kb_1 kb_127) rfl rfl rfl (by decide +kernel) ⟨Nat.le_of_ble_eq_true rfl, Nat.le_of_ble_eq_true rfl⟩) (kPVT (va_recv hK hP (ci := 0) (q0 := 0) rfl rfl) hP hK hZ (fun _ _ h => h)) rfl rfl hl.1 rfl (lv_room (Nat.le_of_ble_eq_true rfl)) d_D_commit_2 ⟨Nat.le_of_ble_eq_true rfl, Nat.le_of_ble_eq_true rfl⟩) hne hlocks (by decide) (by decide) (fun t x ht hW hX => Or.inr ⟨x, rfl, fun h => ht h.1, hX⟩) (fun v_1 hv_1 => ?_)
  obtain ⟨rfl, hp_p0⟩ := hv_1
  have hj : p0.toNatClampNeg < 8 := Nat.not_le.mp fun q => hp_p0 (Or.inr q)
  generalize hjj : p0.toNatClampNeg = j at hj ⊢
  rw [← kv_at G j] at hP
  generalize hGj : G j = gv at hP
  obtain ⟨x0, x1, x2, x3, x4, x5, x6⟩ := gv
  have hGu : va_up G j (x0, x1, x2, x3, x4, x5, x6) = G := by rw [← hGj]; exact kv_at G j
  refine lv_astore (lv' := [(7, .ref (ga j)), (0, .ref d), (1, .int p0), (2, .int p1), (3, .int p2), (4, .int p3), (5, .long p4)]) hx hb d_D_commit_5 hl (by decide) rfl (fun ls hl => ?_)
  refine lv_aload_n hx hb d_D_commit_7 rfl (lv_at hl 1 rfl) ?_
  refine lv_iload_n hx hb d_D_commit_8 rfl (lv_at hl 3 rfl) ?_
  refine kt_callP (kt_runV (As := [.int p1]) (rest := []) ⟨hx, hb, hml, hown, hw⟩ (c_D_checkMember l hl0 hnd lg tm lf wr (va_up G j (x0, x1, x2, x3, x4, x5, x6)) p1 _) (cwV 1 hw (kb_V kb_194 kb_196 kb_s2 kb_1 kb_197) rfl rfl rfl (by decide +kernel) ⟨Nat.le_of_ble_eq_true rfl, Nat.le_of_ble_eq_true rfl⟩) (kPVT (va_recv hK hP (ci := 0) (q0 := 0) rfl rfl) hP hK hZ (fun _ _ h => h)) rfl rfl hl.1 rfl (lv_room (Nat.le_of_ble_eq_true rfl)) d_D_commit_9 ⟨Nat.le_of_ble_eq_true rfl, Nat.le_of_ble_eq_true rfl⟩) hne hlocks (by decide) (by decide) (fun t x ht hW hX => Or.inr ⟨x, rfl, fun h => ht h.2.1, hX⟩) (fun v_2 hv_2 => ?_)
  obtain ⟨rfl, hp_p1⟩ := hv_2
  refine lv_aload_n hx hb d_D_commit_12 rfl (lv_at hl 1 rfl) ?_
  refine lv_iload hx hb d_D_commit_13 (lv_at hl 5 rfl) ?_
  refine kt_callP (kt_runV (As := [.int p3]) (rest := []) ⟨hx, hb, hml, hown, hw⟩ (c_D_checkLog l hl0 hnd lg tm lf wr (va_up G j (x0, x1, x2, x3, x4, x5, x6)) p3 _) (cwV 1 hw (kb_V kb_256 kb_258 kb_s3 kb_1 kb_259) rfl rfl rfl (by decide +kernel) ⟨Nat.le_of_ble_eq_true rfl, Nat.le_of_ble_eq_true rfl⟩) (kPVT (va_recv hK hP (ci := 0) (q0 := 0) rfl rfl) hP hK hZ (fun _ _ h => h)) rfl rfl hl.1 rfl (lv_room (Nat.le_of_ble_eq_true rfl)) d_D_commit_15 ⟨Nat.le_of_ble_eq_true rfl, Nat.le_of_ble_eq_true rfl⟩) hne hlocks (by decide) (by decide) (fun t x ht hW hX => Or.inr ⟨x, rfl, fun h => ht h.2.2.1, hX⟩) (fun v_3 hv_3 => ?_)
  obtain ⟨rfl, hp_p3⟩ := hv_3
  refine lv_lload hx hb d_D_commit_18 (lv_at hl 6 rfl) ?_
  refine lv_lconst (v := 0) hx hb d_D_commit_20 (by decide) ?_
  refine W.lcmp hx hb d_D_commit_21 ?_
  refine lv_if_ge (tgt := 35) hx hb d_D_commit_22 (by decide) (fun c_1 => ?_) (fun c_1 => ?_)
  · refine lv_aload hx hb d_D_commit_35 (lv_at hl 0 rfl) ?_
    refine lv_iload_n hx hb d_D_commit_37 rfl (lv_at hl 3 rfl) ?_
    refine lv_iload_n hx hb d_D_commit_38 rfl (lv_at hl 4 rfl) ?_
    refine lv_iload hx hb d_D_commit_39 (lv_at hl 5 rfl) ?_
    refine vp_callSi (W.runV (As := [.int p1, .int p2, .int p3]) (rest := []) ⟨hx, hb, hml, hown, hw⟩ (c_G_refusalOf l hnd lg tm lf wr G hj x0 x1 x2 x3 x4 x5 x6 p1 p2 p3 _) (cwV 3 hw (kb_V kb_262 kb_263 kb_264 kb_4 kb_265) rfl rfl rfl (by decide +kernel) ⟨Nat.le_of_ble_eq_true rfl, Nat.le_of_ble_eq_true rfl⟩) (kPV (va_recv hK hP (ci := 2) (q0 := (3 * j + 3)) rfl (kw_gG hj)) hP hK) rfl rfl hl.1 rfl (lv_room (Nat.le_of_ble_eq_true rfl)) d_D_commit_41 ⟨Nat.le_of_ble_eq_true rfl, Nat.le_of_ble_eq_true rfl⟩) (fun r_4 er_4 => ?_)
    subst er_4
    refine lv_istore (lv' := [(8, .int (kg_ref p1 p2 p3 (x0, x1, x2, x3, x4, x5, x6))), (7, .ref (ga j)), (0, .ref d), (1, .int p0), (2, .int p1), (3, .int p2), (4, .int p3), (5, .long p4)]) hx hb d_D_commit_44 hl (by decide) rfl (fun ls hl => ?_)
    refine lv_iload hx hb d_D_commit_46 (lv_at hl 0 rfl) ?_
    refine lv_if_eq (tgt := 54) hx hb d_D_commit_48 (by decide) (fun c_2 => ?_) (fun c_2 => ?_)
    · refine lv_aload_n hx hb d_D_commit_54 rfl (lv_at hl 2 rfl) ?_
      refine va_get (D := (dC, dI)) (ci := 0) (v := .ref nb) (C := R_D) (T := F_D) (N := 4) hx hb hw i_D hown hK hP 0 rfl rfl 2 (by decide) (hw _ kb_84) (fun _ h9 => h9) rfl d_D_commit_55 ?_
      refine kc_i (Wd := kwv cI cJ cR d ar nb ga ha oa) (va_runV (As := []) (rest := []) ⟨hx, hb, hml, hown, hw⟩ (c_N_write l hnd lg tm lf wr (va_up G j (x0, x1, x2, x3, x4, x5, x6)) _) (cwV 0 hw (kb_V kb_272 kb_213 kb_214 kb_3 kb_215) rfl rfl rfl (by decide +kernel) ⟨Nat.le_of_ble_eq_true rfl, Nat.le_of_ble_eq_true rfl⟩) (kPV (va_recv hK hP (ci := 1) (q0 := 2) rfl rfl) hP hK) rfl rfl hl.1 rfl (lv_room (Nat.le_of_ble_eq_true rfl)) d_D_commit_58 ⟨Nat.le_of_ble_eq_true rfl, Nat.le_of_ble_eq_true rfl⟩) hS hA hAL (fun r_6 u_5 H locs hw hP _ _ hS => ?_)
      obtain ⟨rfl, rfl⟩ := hw
      generalize hq_7 : kn_write lf wr = z_7 at hP ⊢
      obtain ⟨r_7, lf_7, wr_7⟩ := z_7
      have hP : va_P (dC, dI) vwCl (kw cI cJ cR d ar nb ga ha oa lg tm lf_7 wr_7 (va_up G j (x0, x1, x2, x3, x4, x5, x6))) _ := hP
      refine lv_if_ne (tgt := 67) hx hb d_D_commit_61 (by decide) (fun c_3 => ?_) (fun c_3 => ?_)
      · refine lv_aload hx hb d_D_commit_67 (lv_at hl 1 rfl) ?_
        refine va_get (D := (dC, dI)) (ci := 2) (v := .ref (oa j)) (C := R_G) (T := F_G) (N := 7) hx hb hw i_G hown hK hP (3 * j + 3) (kw_gG hj) rfl 6 (by decide) (hw _ kb_64) (fun _ h9 => h9) rfl d_D_commit_69 ?_
        refine lv_iload hx hb d_D_commit_72 (lv_at hl 6 rfl) ?_
        refine lv_lload hx hb d_D_commit_74 (lv_at hl 7 rfl) ?_
        refine va_last hx hb hK hP (kw_D hnd hAL) hS (3 * j + 5) 1 (kw_gO hj) rfl (k_in8 hlg hp_p3) d_D_commit_76 (fun H locs hP _ hS => ?_)
        have hP : va_P (dC, dI) vwCl (kw cI cJ cR d ar nb ga ha oa lg tm lf_7 wr_7 (va_up G j (x0, x1, x2, x3, x4, x5, vp_updL x6 p3.toNatClampNeg p4))) H := by rw [← kw_sO hj]; exact hP
        refine lv_aload hx hb d_D_commit_77 (lv_at hl 1 rfl) ?_
        refine va_get (D := (dC, dI)) (ci := 2) (v := .ref (ha j)) (C := R_G) (T := F_G) (N := 7) hx hb hw i_G hown hK hP (3 * j + 3) (kw_gG hj) rfl 5 (by decide) (hw _ kb_62) (fun _ h9 => h9) rfl d_D_commit_79 ?_
        refine lv_iload_n hx hb d_D_commit_82 rfl (lv_at hl 4 rfl) ?_
        refine lv_aload_n hx hb d_D_commit_83 rfl (lv_at hl 2 rfl) ?_
        refine va_get (D := (dC, dI)) (ci := 0) (v := .int tm) (C := R_D) (T := F_D) (N := 4) hx hb hw i_D hown hK hP 0 rfl rfl 3 (by decide) (hw _ kb_85) (fun _ h9 => h9) rfl d_D_commit_84 ?_
        refine va_iast hx hb hK hP (kw_D hnd hAL) hS (3 * j + 4) 0 (kw_gH hj) rfl hp_p1 d_D_commit_87 (fun H locs hP _ hS => ?_)
        have hP : va_P (dC, dI) vwCl (kw cI cJ cR d ar nb ga ha oa lg tm lf_7 wr_7 (va_up G j (x0, x1, x2, x3, x4, upd x5 p1.toNatClampNeg tm, vp_updL x6 p3.toNatClampNeg p4))) H := by rw [← kw_sH hj]; exact hP
        refine lv_iconst (v := 0) hx hb d_D_commit_88 (by decide) ?_
        refine W.widen (k := 4) (n := 24) (by decide) (by decide) ?_
        exact kt_W (fun _ h => kt_of h) (W.iret (v := 0) hx hb hr (fun t ht hW => Or.inl ⟨⟨_, (lg, tm, lf_7, wr_7, (va_up G j (x0, x1, x2, x3, x4, upd x5 p1.toNatClampNeg tm, vp_updL x6 p3.toNatClampNeg p4))), rfl, ⟨⟨hp_p0, hp_p1, hp_p3, k_lc.mp c_1⟩, by first | (simp only [kd_commit, kg_hear, kg_off, hjj, hGj, hGu, if_pos c_1, if_pos c_2, hq_7, if_neg c_3]; done) | (simp [kd_commit, kg_hear, kg_off, hjj, hGj, hGu, c_1, c_2, hq_7, c_3]; done)⟩, by show va_P _ _ _ t.heap; rw [ht]; exact hP⟩, hS.F ht⟩) hS.2.2 d_D_commit_89)
      · refine lv_bipush (v := (-2)) hx hb d_D_commit_64 (by decide) ?_
        refine W.widen (k := 4) (n := 24) (by decide) (by decide) ?_
        exact kt_W (fun _ h => kt_of h) (W.iret (v := (-2)) hx hb hr (fun t ht hW => Or.inl ⟨⟨_, (lg, tm, lf_7, wr_7, (va_up G j (x0, x1, x2, x3, x4, x5, x6))), rfl, ⟨⟨hp_p0, hp_p1, hp_p3, k_lc.mp c_1⟩, by first | (simp only [kd_commit, kg_hear, kg_off, hjj, hGj, hGu, if_pos c_1, if_pos c_2, hq_7, if_pos c_3]; done) | (simp [kd_commit, kg_hear, kg_off, hjj, hGj, hGu, c_1, c_2, hq_7, c_3]; done)⟩, by show va_P _ _ _ t.heap; rw [ht]; exact hP⟩, hS.F ht⟩) hS.2.2 d_D_commit_66)
    · refine lv_iload hx hb d_D_commit_51 (lv_at hl 0 rfl) ?_
      refine W.widen (k := 4) (n := 24) (by decide) (by decide) ?_
      exact kt_W (fun _ h => kt_of h) (W.iret (v := (kg_ref p1 p2 p3 (x0, x1, x2, x3, x4, x5, x6))) hx hb hr (fun t ht hW => Or.inl ⟨⟨_, (lg, tm, lf, wr, (va_up G j (x0, x1, x2, x3, x4, x5, x6))), rfl, ⟨⟨hp_p0, hp_p1, hp_p3, k_lc.mp c_1⟩, by first | (simp only [kd_commit, kg_hear, kg_off, hjj, hGj, hGu, if_pos c_1, if_neg c_2]; done) | (simp [kd_commit, kg_hear, kg_off, hjj, hGj, hGu, c_1, c_2]; done)⟩, by show va_P _ _ _ t.heap; rw [ht]; exact hP⟩, hS.F ht⟩) hS.2.2 d_D_commit_53)
  · refine W.widen (k := 3) (n := 18) (by decide) (by decide) ?_
    obtain ⟨q9, hq9⟩ := hZ.2.use hown (k := 80) (tx := "the offset is below 0") (by decide)
    exact kt_throw (own := R_D) (xN := kt_N) (up := kt_U) (tx := "the offset is below 0") (q := q9) hx htr hb (hl.1.trans hml.symm) hown hne hlocks (by decide +kernel) (by decide +kernel) hZ.1.use (hw _ kb_128) (hw _ kb_129) (hw _ kb_10) hq9 (Nat.le_refl _) d_D_commit_25 d_D_commit_28 d_D_commit_29 d_D_commit_31 d_D_commit_34 (Nat.le_of_ble_eq_true rfl) (Nat.le_of_ble_eq_true rfl) (Nat.le_of_ble_eq_true rfl) (Nat.le_of_ble_eq_true rfl) (fun t x hW hX => Or.inr ⟨x, rfl, fun h => c_1 (k_lc.mpr h.2.2.2), hX⟩)
set_option maxHeartbeats 4000000 in
set_option maxRecDepth 100000 in
theorem c_D_committed (l : Launch) (hl0 : l.stackTraces = false) {dC : Nat → ClassId} {dI : Nat → Nat → Nat} {cI cJ cR : ClassId} {d ar nb : Nat} {ga ha oa : Nat → Nat} (hnd : (kad d ar nb ga ha oa).Nodup) (lg tm lf wr : Int32) (G : Nat → kGV) (p0 : Int32) (p1 : Int32) (hlg : ∃ n : Nat, n ≤ 8 ∧ lg = nI n) (sz : Nat) : MetT l y_D_committed w_D_committed ({ frames := 7, cells := 2, slots := 12, locals := 120 }) (kPreT (dC, dI) vwCl (kty cI cJ cR) [.ref d, .int p0, .int p1] sz (kw cI cJ cR d ar nb ga ha oa lg tm lf wr G)) (kt_Or kt_N (va_Ql (fun (r : Int64) (u : kDV) => (vp_in p0 8 ∧ (¬ p1 < 0 ∧ p1 < lg)) ∧ r = (G p0.toNatClampNeg).2.2.2.2.2.2 p1.toNatClampNeg ∧ u = (lg, tm, lf, wr, G)) (fun u t => va_P (dC, dI) vwCl (kwv cI cJ cR d ar nb ga ha oa u) t.heap) (kA (kad d ar nb ga ha oa) sz)) (¬ (vp_in p0 8 ∧ (¬ p1 < 0 ∧ p1 < lg)))) 2 12 (kA (kad d ar nb ga ha oa) sz) := by
  refine kt_ofW (cc := b_D_committed) (maxL := 4) (ret := (some .long)) (by decide) rfl ?_
  intro p e s m args below meth c s₁ B hml hv
  obtain ⟨⟨rfl, hsz, hP, hK⟩, hZ⟩ := hv
  have hx := B.exec
  have hb := B.bytes
  have hr := B.returns
  have hts := atoms_spec (ws := w_D_committed) B.pre
  have hw := fun (w : Cond) (h : w ∈ kb_B) => hts w (List.mem_cons_of_mem _ h)
  have hown : s.vm.findClass R_D = some m.cls := findClass_of_methodNamed B.named
  have hlocks := B.notSynchronized
  have hne := B.noHandlers (hts _ List.mem_cons_self)
  have htr : e.platform.stackTraces = false := by rw [Example.NoTraceControls.admits_follows B.admits]; exact hl0
  subst hsz
  generalize hAe : kA (kad d ar nb ga ha oa) s.heap.size = A
  have hA : ∀ q : Nat, s.heap.size ≤ q → A q := fun q h => by rw [← hAe]; exact Or.inr h
  have hAL : ∀ q ∈ (kad d ar nb ga ha oa), A q := fun q h => by rw [← hAe]; exact Or.inl h
  have hS : va_S A s.heap s.heap [] := va_S.rf
  have hl := lv_entry ([.ref d, .int p0, .int p1]) (n := 4) (Nat.le_of_ble_eq_true rfl)
  rw [lg_entry_eq]
  generalize (lg_sl ([.ref d, .int p0, .int p1]) ++ List.replicate (4 - (lg_sl ([.ref d, .int p0, .int p1])).length) Slot.unset).toArray = ls at hl ⊢
  have hl : lv_has ls 4 [(0, .ref d), (1, .int p0), (2, .int p1)] := hl
  refine lv_aload_n hx hb d_D_committed_0 rfl (lv_at hl 0 rfl) ?_
  refine lv_iload_n hx hb d_D_committed_1 rfl (lv_at hl 1 rfl) ?_
  refine kt_callP (kt_runV (As := [.int p0]) (rest := []) ⟨hx, hb, hml, hown, hw⟩ (c_D_groupAt l hl0 hnd lg tm lf wr G p0 _) (cwV 1 hw (kb_V kb_124 kb_126 kb_s0 kb_1 kb_127) rfl rfl rfl (by decide +kernel) ⟨Nat.le_of_ble_eq_true rfl, Nat.le_of_ble_eq_true rfl⟩) (kPVT (va_recv hK hP (ci := 0) (q0 := 0) rfl rfl) hP hK hZ (fun _ _ h => h)) rfl rfl hl.1 rfl (lv_room (Nat.le_of_ble_eq_true rfl)) d_D_committed_2 ⟨Nat.le_of_ble_eq_true rfl, Nat.le_of_ble_eq_true rfl⟩) hne hlocks (by decide) (by decide) (fun t x ht hW hX => Or.inr ⟨x, rfl, fun h => ht h.1, hX⟩) (fun v_1 hv_1 => ?_)
  obtain ⟨rfl, hp_p0⟩ := hv_1
  have hj : p0.toNatClampNeg < 8 := Nat.not_le.mp fun q => hp_p0 (Or.inr q)
  generalize hjj : p0.toNatClampNeg = j at hj ⊢
  rw [← kv_at G j] at hP
  generalize hGj : G j = gv at hP
  obtain ⟨x0, x1, x2, x3, x4, x5, x6⟩ := gv
  have hGu : va_up G j (x0, x1, x2, x3, x4, x5, x6) = G := by rw [← hGj]; exact kv_at G j
  refine lv_astore_n (lv' := [(3, .ref (ga j)), (0, .ref d), (1, .int p0), (2, .int p1)]) hx hb d_D_committed_5 rfl hl (by decide) rfl (fun ls hl => ?_)
  refine lv_aload_n hx hb d_D_committed_6 rfl (lv_at hl 1 rfl) ?_
  refine lv_iload_n hx hb d_D_committed_7 rfl (lv_at hl 3 rfl) ?_
  refine kt_callP (kt_runV (As := [.int p1]) (rest := []) ⟨hx, hb, hml, hown, hw⟩ (c_D_checkLog l hl0 hnd lg tm lf wr (va_up G j (x0, x1, x2, x3, x4, x5, x6)) p1 _) (cwV 1 hw (kb_V kb_256 kb_258 kb_s3 kb_1 kb_259) rfl rfl rfl (by decide +kernel) ⟨Nat.le_of_ble_eq_true rfl, Nat.le_of_ble_eq_true rfl⟩) (kPVT (va_recv hK hP (ci := 0) (q0 := 0) rfl rfl) hP hK hZ (fun _ _ h => h)) rfl rfl hl.1 rfl (lv_room (Nat.le_of_ble_eq_true rfl)) d_D_committed_8 ⟨Nat.le_of_ble_eq_true rfl, Nat.le_of_ble_eq_true rfl⟩) hne hlocks (by decide) (by decide) (fun t x ht hW hX => Or.inr ⟨x, rfl, fun h => ht h.2, hX⟩) (fun v_2 hv_2 => ?_)
  obtain ⟨rfl, hp_p1⟩ := hv_2
  refine lv_aload_n hx hb d_D_committed_11 rfl (lv_at hl 0 rfl) ?_
  refine va_get (D := (dC, dI)) (ci := 2) (v := .ref (oa j)) (C := R_G) (T := F_G) (N := 7) hx hb hw i_G hown hK hP (3 * j + 3) (kw_gG hj) rfl 6 (by decide) (hw _ kb_64) (fun _ h9 => h9) rfl d_D_committed_12 ?_
  refine lv_iload_n hx hb d_D_committed_15 rfl (lv_at hl 3 rfl) ?_
  refine va_lald hx hb hK hP (3 * j + 5) 1 (kw_gO hj) rfl (k_in8 hlg hp_p1) d_D_committed_16 ?_
  refine W.widen (k := 2) (n := 12) (by decide) (by decide) ?_
  exact kt_W (fun _ h => kt_of h) (W.lret (v := (x6 p1.toNatClampNeg)) hx hb hr (fun t ht hW => Or.inl ⟨⟨_, (lg, tm, lf, wr, (va_up G j (x0, x1, x2, x3, x4, x5, x6))), rfl, ⟨⟨hp_p0, hp_p1⟩, by first | (simp only [hjj, hGj, hGu]; done) | (simp [hjj, hGj, hGu]; done), by first | (simp only [hjj, hGj, hGu]; done) | (simp [hjj, hGj, hGu]; done)⟩, by show va_P _ _ _ t.heap; rw [ht]; exact hP⟩, hS.F ht⟩) hS.2.2 d_D_committed_17)
set_option maxHeartbeats 4000000 in
set_option maxRecDepth 100000 in
theorem c_D_group (l : Launch) (hl0 : l.stackTraces = false) {dC : Nat → ClassId} {dI : Nat → Nat → Nat} {cI cJ cR : ClassId} {d ar nb : Nat} {ga ha oa : Nat → Nat} (hnd : (kad d ar nb ga ha oa).Nodup) (lg tm lf wr : Int32) (G : Nat → kGV) (p0 : Int32) (p1 : Int32) (sz : Nat) : MetT l y_D_group w_D_group ({ frames := 7, cells := 2, slots := 12, locals := 120 }) (kPreT (dC, dI) vwCl (kty cI cJ cR) [.ref d, .int p0, .int p1] sz (kw cI cJ cR d ar nb ga ha oa lg tm lf wr G)) (kt_Or kt_N (va_Qi (fun (r : Int32) (u : kDV) => (vp_in p0 8 ∧ vp_in p1 5) ∧ r = kg_what tm p1 (G p0.toNatClampNeg) ∧ u = (lg, tm, lf, wr, G)) (fun u t => va_P (dC, dI) vwCl (kwv cI cJ cR d ar nb ga ha oa u) t.heap) (kA (kad d ar nb ga ha oa) sz)) (¬ (vp_in p0 8 ∧ vp_in p1 5))) 2 12 (kA (kad d ar nb ga ha oa) sz) := by
  refine kt_ofW (cc := b_D_group) (maxL := 4) (ret := (some .int)) (by decide) rfl ?_
  intro p e s m args below meth c s₁ B hml hv
  obtain ⟨⟨rfl, hsz, hP, hK⟩, hZ⟩ := hv
  have hx := B.exec
  have hb := B.bytes
  have hr := B.returns
  have hts := atoms_spec (ws := w_D_group) B.pre
  have hw := fun (w : Cond) (h : w ∈ kb_B) => hts w (List.mem_cons_of_mem _ h)
  have hown : s.vm.findClass R_D = some m.cls := findClass_of_methodNamed B.named
  have hlocks := B.notSynchronized
  have hne := B.noHandlers (hts _ List.mem_cons_self)
  have htr : e.platform.stackTraces = false := by rw [Example.NoTraceControls.admits_follows B.admits]; exact hl0
  subst hsz
  generalize hAe : kA (kad d ar nb ga ha oa) s.heap.size = A
  have hA : ∀ q : Nat, s.heap.size ≤ q → A q := fun q h => by rw [← hAe]; exact Or.inr h
  have hAL : ∀ q ∈ (kad d ar nb ga ha oa), A q := fun q h => by rw [← hAe]; exact Or.inl h
  have hS : va_S A s.heap s.heap [] := va_S.rf
  have hl := lv_entry ([.ref d, .int p0, .int p1]) (n := 4) (Nat.le_of_ble_eq_true rfl)
  rw [lg_entry_eq]
  generalize (lg_sl ([.ref d, .int p0, .int p1]) ++ List.replicate (4 - (lg_sl ([.ref d, .int p0, .int p1])).length) Slot.unset).toArray = ls at hl ⊢
  have hl : lv_has ls 4 [(0, .ref d), (1, .int p0), (2, .int p1)] := hl
  refine lv_aload_n hx hb d_D_group_0 rfl (lv_at hl 0 rfl) ?_
  refine lv_iload_n hx hb d_D_group_1 rfl (lv_at hl 1 rfl) ?_
  refine kt_callP (kt_runV (As := [.int p0]) (rest := []) ⟨hx, hb, hml, hown, hw⟩ (c_D_groupAt l hl0 hnd lg tm lf wr G p0 _) (cwV 1 hw (kb_V kb_124 kb_126 kb_s0 kb_1 kb_127) rfl rfl rfl (by decide +kernel) ⟨Nat.le_of_ble_eq_true rfl, Nat.le_of_ble_eq_true rfl⟩) (kPVT (va_recv hK hP (ci := 0) (q0 := 0) rfl rfl) hP hK hZ (fun _ _ h => h)) rfl rfl hl.1 rfl (lv_room (Nat.le_of_ble_eq_true rfl)) d_D_group_2 ⟨Nat.le_of_ble_eq_true rfl, Nat.le_of_ble_eq_true rfl⟩) hne hlocks (by decide) (by decide) (fun t x ht hW hX => Or.inr ⟨x, rfl, fun h => ht h.1, hX⟩) (fun v_1 hv_1 => ?_)
  obtain ⟨rfl, hp_p0⟩ := hv_1
  have hj : p0.toNatClampNeg < 8 := Nat.not_le.mp fun q => hp_p0 (Or.inr q)
  generalize hjj : p0.toNatClampNeg = j at hj ⊢
  rw [← kv_at G j] at hP
  generalize hGj : G j = gv at hP
  obtain ⟨x0, x1, x2, x3, x4, x5, x6⟩ := gv
  have hGu : va_up G j (x0, x1, x2, x3, x4, x5, x6) = G := by rw [← hGj]; exact kv_at G j
  refine lv_astore_n (lv' := [(3, .ref (ga j)), (0, .ref d), (1, .int p0), (2, .int p1)]) hx hb d_D_group_5 rfl hl (by decide) rfl (fun ls hl => ?_)
  refine lv_iload_n hx hb d_D_group_6 rfl (lv_at hl 3 rfl) ?_
  by_cases hsw : vp_in p1 5
  · obtain ⟨q, hq, rfl⟩ := vp_in_of hsw (by decide)
    rcases (show q = 0 ∨ q = 1 ∨ q = 2 ∨ q = 3 ∨ q = 4 by omega) with rfl | rfl | rfl | rfl | rfl
    · refine lv_tableIn (tgt := 40) hx hb d_D_group_7 (by decide) (by decide) rfl (by decide) ?_
      refine lv_aload_n hx hb d_D_group_40 rfl (lv_at hl 0 rfl) ?_
      refine va_get (D := (dC, dI)) (ci := 2) (v := .int x0) (C := R_G) (T := F_G) (N := 7) hx hb hw i_G hown hK hP (3 * j + 3) (kw_gG hj) rfl 0 (by decide) (hw _ kb_52) (fun _ h9 => h9) rfl d_D_group_41 ?_
      refine W.widen (k := 2) (n := 12) (by decide) (by decide) ?_
      exact kt_W (fun _ h => kt_of h) (W.iret (v := x0) hx hb hr (fun t ht hW => Or.inl ⟨⟨_, (lg, tm, lf, wr, (va_up G j (x0, x1, x2, x3, x4, x5, x6))), rfl, ⟨⟨hp_p0, hsw⟩, by first | (simp only [kg_what, hjj, hGj, hGu, if_pos (show nI 0 = 0 from rfl)]; done) | (simp [kg_what, hjj, hGj, hGu, (show nI 0 = 0 from rfl)]; done), by first | (simp only [kg_what, hjj, hGj, hGu, if_pos (show nI 0 = 0 from rfl)]; done) | (simp [kg_what, hjj, hGj, hGu, (show nI 0 = 0 from rfl)]; done)⟩, by show va_P _ _ _ t.heap; rw [ht]; exact hP⟩, hS.F ht⟩) hS.2.2 d_D_group_44)
    · refine lv_tableIn (tgt := 45) hx hb d_D_group_7 (by decide) (by decide) rfl (by decide) ?_
      refine lv_aload_n hx hb d_D_group_45 rfl (lv_at hl 0 rfl) ?_
      refine va_get (D := (dC, dI)) (ci := 2) (v := .int x1) (C := R_G) (T := F_G) (N := 7) hx hb hw i_G hown hK hP (3 * j + 3) (kw_gG hj) rfl 1 (by decide) (hw _ kb_55) (fun _ h9 => h9) rfl d_D_group_46 ?_
      refine W.widen (k := 2) (n := 12) (by decide) (by decide) ?_
      exact kt_W (fun _ h => kt_of h) (W.iret (v := x1) hx hb hr (fun t ht hW => Or.inl ⟨⟨_, (lg, tm, lf, wr, (va_up G j (x0, x1, x2, x3, x4, x5, x6))), rfl, ⟨⟨hp_p0, hsw⟩, by first | (simp only [kg_what, hjj, hGj, hGu, if_neg (show ¬ nI 1 = 0 by decide), if_pos (show nI 1 = 1 from rfl)]; done) | (simp [kg_what, hjj, hGj, hGu, (show ¬ nI 1 = 0 by decide), (show nI 1 = 1 from rfl)]; done), by first | (simp only [kg_what, hjj, hGj, hGu, if_neg (show ¬ nI 1 = 0 by decide), if_pos (show nI 1 = 1 from rfl)]; done) | (simp [kg_what, hjj, hGj, hGu, (show ¬ nI 1 = 0 by decide), (show nI 1 = 1 from rfl)]; done)⟩, by show va_P _ _ _ t.heap; rw [ht]; exact hP⟩, hS.F ht⟩) hS.2.2 d_D_group_49)
    · refine lv_tableIn (tgt := 50) hx hb d_D_group_7 (by decide) (by decide) rfl (by decide) ?_
      refine lv_aload_n hx hb d_D_group_50 rfl (lv_at hl 0 rfl) ?_
      refine va_get (D := (dC, dI)) (ci := 2) (v := .int x2) (C := R_G) (T := F_G) (N := 7) hx hb hw i_G hown hK hP (3 * j + 3) (kw_gG hj) rfl 2 (by decide) (hw _ kb_57) (fun _ h9 => h9) rfl d_D_group_51 ?_
      refine W.widen (k := 2) (n := 12) (by decide) (by decide) ?_
      exact kt_W (fun _ h => kt_of h) (W.iret (v := x2) hx hb hr (fun t ht hW => Or.inl ⟨⟨_, (lg, tm, lf, wr, (va_up G j (x0, x1, x2, x3, x4, x5, x6))), rfl, ⟨⟨hp_p0, hsw⟩, by first | (simp only [kg_what, hjj, hGj, hGu, if_neg (show ¬ nI 2 = 0 by decide), if_neg (show ¬ nI 2 = 1 by decide), if_pos (show nI 2 = 2 from rfl)]; done) | (simp [kg_what, hjj, hGj, hGu, (show ¬ nI 2 = 0 by decide), (show ¬ nI 2 = 1 by decide), (show nI 2 = 2 from rfl)]; done), by first | (simp only [kg_what, hjj, hGj, hGu, if_neg (show ¬ nI 2 = 0 by decide), if_neg (show ¬ nI 2 = 1 by decide), if_pos (show nI 2 = 2 from rfl)]; done) | (simp [kg_what, hjj, hGj, hGu, (show ¬ nI 2 = 0 by decide), (show ¬ nI 2 = 1 by decide), (show nI 2 = 2 from rfl)]; done)⟩, by show va_P _ _ _ t.heap; rw [ht]; exact hP⟩, hS.F ht⟩) hS.2.2 d_D_group_54)
    · refine lv_tableIn (tgt := 55) hx hb d_D_group_7 (by decide) (by decide) rfl (by decide) ?_
      refine lv_aload_n hx hb d_D_group_55 rfl (lv_at hl 0 rfl) ?_
      refine va_get (D := (dC, dI)) (ci := 2) (v := .int x3) (C := R_G) (T := F_G) (N := 7) hx hb hw i_G hown hK hP (3 * j + 3) (kw_gG hj) rfl 3 (by decide) (hw _ kb_59) (fun _ h9 => h9) rfl d_D_group_56 ?_
      refine W.widen (k := 2) (n := 12) (by decide) (by decide) ?_
      exact kt_W (fun _ h => kt_of h) (W.iret (v := x3) hx hb hr (fun t ht hW => Or.inl ⟨⟨_, (lg, tm, lf, wr, (va_up G j (x0, x1, x2, x3, x4, x5, x6))), rfl, ⟨⟨hp_p0, hsw⟩, by first | (simp only [kg_what, hjj, hGj, hGu, if_neg (show ¬ nI 3 = 0 by decide), if_neg (show ¬ nI 3 = 1 by decide), if_neg (show ¬ nI 3 = 2 by decide), if_pos (show nI 3 = 3 from rfl)]; done) | (simp [kg_what, hjj, hGj, hGu, (show ¬ nI 3 = 0 by decide), (show ¬ nI 3 = 1 by decide), (show ¬ nI 3 = 2 by decide), (show nI 3 = 3 from rfl)]; done), by first | (simp only [kg_what, hjj, hGj, hGu, if_neg (show ¬ nI 3 = 0 by decide), if_neg (show ¬ nI 3 = 1 by decide), if_neg (show ¬ nI 3 = 2 by decide), if_pos (show nI 3 = 3 from rfl)]; done) | (simp [kg_what, hjj, hGj, hGu, (show ¬ nI 3 = 0 by decide), (show ¬ nI 3 = 1 by decide), (show ¬ nI 3 = 2 by decide), (show nI 3 = 3 from rfl)]; done)⟩, by show va_P _ _ _ t.heap; rw [ht]; exact hP⟩, hS.F ht⟩) hS.2.2 d_D_group_59)
    · refine lv_tableIn (tgt := 60) hx hb d_D_group_7 (by decide) (by decide) rfl (by decide) ?_
      refine lv_aload_n hx hb d_D_group_60 rfl (lv_at hl 0 rfl) ?_
      refine lv_aload_n hx hb d_D_group_61 rfl (lv_at hl 1 rfl) ?_
      refine va_get (D := (dC, dI)) (ci := 0) (v := .int tm) (C := R_D) (T := F_D) (N := 4) hx hb hw i_D hown hK hP 0 rfl rfl 3 (by decide) (hw _ kb_85) (fun _ h9 => h9) rfl d_D_group_62 ?_
      refine vp_callSi (W.runV (As := [.int tm]) (rest := []) ⟨hx, hb, hml, hown, hw⟩ (c_G_ticksToLimit l hnd lg tm lf wr G hj x0 x1 x2 x3 x4 x5 x6 tm _) (cwV 1 hw (kb_V kb_287 kb_288 kb_289 kb_4 kb_290) rfl rfl rfl (by decide +kernel) ⟨Nat.le_of_ble_eq_true rfl, Nat.le_of_ble_eq_true rfl⟩) (kPV (va_recv hK hP (ci := 2) (q0 := (3 * j + 3)) rfl (kw_gG hj)) hP hK) rfl rfl hl.1 rfl (lv_room (Nat.le_of_ble_eq_true rfl)) d_D_group_65 ⟨Nat.le_of_ble_eq_true rfl, Nat.le_of_ble_eq_true rfl⟩) (fun r_2 er_2 => ?_)
      subst er_2
      refine W.widen (k := 2) (n := 12) (by decide) (by decide) ?_
      exact kt_W (fun _ h => kt_of h) (W.iret (v := (kg_lim tm (x0, x1, x2, x3, x4, x5, x6))) hx hb hr (fun t ht hW => Or.inl ⟨⟨_, (lg, tm, lf, wr, (va_up G j (x0, x1, x2, x3, x4, x5, x6))), rfl, ⟨⟨hp_p0, hsw⟩, by first | (simp only [kg_what, hjj, hGj, hGu, if_neg (show ¬ nI 4 = 0 by decide), if_neg (show ¬ nI 4 = 1 by decide), if_neg (show ¬ nI 4 = 2 by decide), if_neg (show ¬ nI 4 = 3 by decide)]; done) | (simp [kg_what, hjj, hGj, hGu, (show ¬ nI 4 = 0 by decide), (show ¬ nI 4 = 1 by decide), (show ¬ nI 4 = 2 by decide), (show ¬ nI 4 = 3 by decide)]; done), by first | (simp only [kg_what, hjj, hGj, hGu, if_neg (show ¬ nI 4 = 0 by decide), if_neg (show ¬ nI 4 = 1 by decide), if_neg (show ¬ nI 4 = 2 by decide), if_neg (show ¬ nI 4 = 3 by decide)]; done) | (simp [kg_what, hjj, hGj, hGu, (show ¬ nI 4 = 0 by decide), (show ¬ nI 4 = 1 by decide), (show ¬ nI 4 = 2 by decide), (show ¬ nI 4 = 3 by decide)]; done)⟩, by show va_P _ _ _ t.heap; rw [ht]; exact hP⟩, hS.F ht⟩) hS.2.2 d_D_group_68)
  · refine lv_tableOut (tgt := 69) hx hb d_D_group_7 (by rw [vp_in_iff] at hsw; omega) (by decide) ?_
    refine W.widen (k := 1) (n := 6) (by decide) (by decide) ?_
    obtain ⟨q9, hq9⟩ := hZ.2.use hown (k := 107) (tx := "what is not 0 .. 4") (by decide)
    exact kt_throw (own := R_D) (xN := kt_N) (up := kt_U) (tx := "what is not 0 .. 4") (q := q9) hx htr hb (hl.1.trans hml.symm) hown hne hlocks (by decide +kernel) (by decide +kernel) hZ.1.use (hw _ kb_128) (hw _ kb_129) (hw _ kb_10) hq9 (Nat.le_refl _) d_D_group_69 d_D_group_72 d_D_group_73 d_D_group_75 d_D_group_78 (Nat.le_of_ble_eq_true rfl) (Nat.le_of_ble_eq_true rfl) (Nat.le_of_ble_eq_true rfl) (Nat.le_of_ble_eq_true rfl) (fun t x hW hX => Or.inr ⟨x, rfl, fun h => hsw h.2, hX⟩)
set_option maxHeartbeats 4000000 in
set_option maxRecDepth 100000 in
theorem c_D_room (l : Launch) (hl0 : l.stackTraces = false) {dC : Nat → ClassId} {dI : Nat → Nat → Nat} {cI cJ cR : ClassId} {d ar nb : Nat} {ga ha oa : Nat → Nat} (hnd : (kad d ar nb ga ha oa).Nodup) (lg tm lf wr : Int32) (G : Nat → kGV) (p0 : Int32) (sz : Nat) : MetT l y_D_room w_D_room ({ frames := 6, cells := 1, slots := 6, locals := 90 }) (kPreT (dC, dI) vwCl (kty cI cJ cR) [.ref d, .int p0] sz (kw cI cJ cR d ar nb ga ha oa lg tm lf wr G)) (kt_Or kt_N (va_Qi (fun (r : Int32) (u : kDV) => (¬ p0 < 0 ∧ p0 ≤ 100000) ∧ (r, u) = (lf, (lg, tm, p0, wr, G))) (fun u t => va_P (dC, dI) vwCl (kwv cI cJ cR d ar nb ga ha oa u) t.heap) (kA (kad d ar nb ga ha oa) sz)) (¬ (¬ p0 < 0 ∧ p0 ≤ 100000))) 1 6 (kA (kad d ar nb ga ha oa) sz) := by
  refine kt_ofW (cc := b_D_room) (maxL := 3) (ret := (some .int)) (by decide) rfl ?_
  intro p e s m args below meth c s₁ B hml hv
  obtain ⟨⟨rfl, hsz, hP, hK⟩, hZ⟩ := hv
  have hx := B.exec
  have hb := B.bytes
  have hr := B.returns
  have hts := atoms_spec (ws := w_D_room) B.pre
  have hw := fun (w : Cond) (h : w ∈ kb_B) => hts w (List.mem_cons_of_mem _ h)
  have hown : s.vm.findClass R_D = some m.cls := findClass_of_methodNamed B.named
  have hlocks := B.notSynchronized
  have hne := B.noHandlers (hts _ List.mem_cons_self)
  have htr : e.platform.stackTraces = false := by rw [Example.NoTraceControls.admits_follows B.admits]; exact hl0
  subst hsz
  generalize hAe : kA (kad d ar nb ga ha oa) s.heap.size = A
  have hA : ∀ q : Nat, s.heap.size ≤ q → A q := fun q h => by rw [← hAe]; exact Or.inr h
  have hAL : ∀ q ∈ (kad d ar nb ga ha oa), A q := fun q h => by rw [← hAe]; exact Or.inl h
  have hS : va_S A s.heap s.heap [] := va_S.rf
  have hl := lv_entry ([.ref d, .int p0]) (n := 3) (Nat.le_of_ble_eq_true rfl)
  rw [lg_entry_eq]
  generalize (lg_sl ([.ref d, .int p0]) ++ List.replicate (3 - (lg_sl ([.ref d, .int p0])).length) Slot.unset).toArray = ls at hl ⊢
  have hl : lv_has ls 3 [(0, .ref d), (1, .int p0)] := hl
  refine lv_iload_n hx hb d_D_room_0 rfl (lv_at hl 1 rfl) ?_
  refine lv_if_lt (tgt := 10) hx hb d_D_room_1 (by decide) (fun c_1 => ?_) (fun c_1 => ?_)
  · refine W.widen (k := 0) (n := 0) (by decide) (by decide) ?_
    obtain ⟨q9, hq9⟩ := hZ.2.use hown (k := 114) (tx := "n is not 0 .. 100000") (by decide)
    exact kt_throw (own := R_D) (xN := kt_N) (up := kt_U) (tx := "n is not 0 .. 100000") (q := q9) hx htr hb (hl.1.trans hml.symm) hown hne hlocks (by decide +kernel) (by decide +kernel) hZ.1.use (hw _ kb_128) (hw _ kb_129) (hw _ kb_10) hq9 (Nat.le_refl _) d_D_room_10 d_D_room_13 d_D_room_14 d_D_room_16 d_D_room_19 (Nat.le_of_ble_eq_true rfl) (Nat.le_of_ble_eq_true rfl) (Nat.le_of_ble_eq_true rfl) (Nat.le_of_ble_eq_true rfl) (fun t x hW hX => Or.inr ⟨x, rfl, fun h => h.1 c_1, hX⟩)
  · refine lv_iload_n hx hb d_D_room_4 rfl (lv_at hl 1 rfl) ?_
    refine lv_ldc (v := 100000) hx hb hown (hw _ kb_308) d_D_room_5 ?_
    refine lv_icmp_le (tgt := 20) hx hb d_D_room_7 (by decide) (fun c_2 => ?_) (fun c_2 => ?_)
    · refine lv_aload_n hx hb d_D_room_20 rfl (lv_at hl 0 rfl) ?_
      refine va_get (D := (dC, dI)) (ci := 0) (v := .ref nb) (C := R_D) (T := F_D) (N := 4) hx hb hw i_D hown hK hP 0 rfl rfl 2 (by decide) (hw _ kb_84) (fun _ h9 => h9) rfl d_D_room_21 ?_
      refine va_get (D := (dC, dI)) (ci := 1) (v := .int lf) (C := R_N) (T := F_N) (N := 2) hx hb hw i_N hown hK hP 2 rfl rfl 0 (by decide) (hw _ kb_33) (fun _ h9 => h9) rfl d_D_room_24 ?_
      refine lv_istore_n (lv' := [(2, .int lf), (0, .ref d), (1, .int p0)]) hx hb d_D_room_27 rfl hl (by decide) rfl (fun ls hl => ?_)
      refine lv_aload_n hx hb d_D_room_28 rfl (lv_at hl 1 rfl) ?_
      refine va_get (D := (dC, dI)) (ci := 0) (v := .ref nb) (C := R_D) (T := F_D) (N := 4) hx hb hw i_D hown hK hP 0 rfl rfl 2 (by decide) (hw _ kb_84) (fun _ h9 => h9) rfl d_D_room_29 ?_
      refine lv_iload_n hx hb d_D_room_32 rfl (lv_at hl 2 rfl) ?_
      refine va_put (D := (dC, dI)) (ci := 1) (v := .int p0) (ty := .int) (C := R_N) (T := F_N) (N := 2) hx hb hw i_N t_N t_N_ok n_N hown hK hP (kw_D hnd hAL) hS 2 rfl rfl 0 (by decide) (hw _ kb_33) (fun _ h9 => h9) rfl (by decide +kernel) rfl rfl (Nat.le_of_ble_eq_true rfl) d_D_room_33 (fun H locs hP _ hS => ?_)
      have hP : va_P (dC, dI) vwCl (kw cI cJ cR d ar nb ga ha oa lg tm p0 wr G) _ := hP
      refine lv_iload_n hx hb d_D_room_36 rfl (lv_at hl 0 rfl) ?_
      refine W.widen (k := 1) (n := 6) (by decide) (by decide) ?_
      exact kt_W (fun _ h => kt_of h) (W.iret (v := lf) hx hb hr (fun t ht hW => Or.inl ⟨⟨_, (lg, tm, p0, wr, G), rfl, ⟨⟨c_1, c_2⟩, by first | (simp only [if_neg c_1, if_pos c_2]; done) | (simp [c_1, c_2]; done)⟩, by show va_P _ _ _ t.heap; rw [ht]; exact hP⟩, hS.F ht⟩) hS.2.2 d_D_room_37)
    · refine W.widen (k := 0) (n := 0) (by decide) (by decide) ?_
      obtain ⟨q9, hq9⟩ := hZ.2.use hown (k := 114) (tx := "n is not 0 .. 100000") (by decide)
      exact kt_throw (own := R_D) (xN := kt_N) (up := kt_U) (tx := "n is not 0 .. 100000") (q := q9) hx htr hb (hl.1.trans hml.symm) hown hne hlocks (by decide +kernel) (by decide +kernel) hZ.1.use (hw _ kb_128) (hw _ kb_129) (hw _ kb_10) hq9 (Nat.le_refl _) d_D_room_10 d_D_room_13 d_D_room_14 d_D_room_16 d_D_room_19 (Nat.le_of_ble_eq_true rfl) (Nat.le_of_ble_eq_true rfl) (Nat.le_of_ble_eq_true rfl) (Nat.le_of_ble_eq_true rfl) (fun t x hW hX => Or.inr ⟨x, rfl, fun h => c_2 h.2, hX⟩)
end
section
set_option maxHeartbeats 4000000 in
set_option maxRecDepth 100000 in
theorem lp_D_share {p : Program} {l : Launch} {e : Env} {s : State} {m : MethodId} {args : Array Value} {below : List Frame} {meth : Method} {c : Code} {Q : State → Prop} {dC : Nat → ClassId} {dI : Nat → Nat → Nat} {cI cJ cR : ClassId} {d ar nb : Nat} {ga ha oa : Nat → Nat} (hnd : (kad d ar nb ga ha oa).Nodup) {n : Nat} (hn : n ≤ 8) {tm lf wr : Int32} {G : Nat → kGV} {j : Nat} (hj : j < 8) {x0 x1 x2 x3 x4 : Int32} {x5 : Nat → Int32} {x6 : Nat → Int64} {p0 p1 : Int32} {H : Heap} (hx : p.tables.exec = Jvm.exec) (hb : c.code = b_D_share) (hml : c.maxLocals = 6) (hown : s.vm.findClass R_D = some m.cls) (hw : ∀ w ∈ kb_B, w.before args s = true) (hK : va_K (dC, dI) vwCl (kty cI cJ cR) s) (hP : va_P (dC, dI) vwCl (kw cI cJ cR d ar nb ga ha oa (nI n) tm lf wr (va_up G j (x0, x1, x2, x3, x4, x5, x6))) H)
    (kk : ∀ ls : Array Slot, lv_has ls 6 [(5, .int (nI n)), (4, .int (kg_sh p1 (x0, x1, x2, x3, x4, x5, x6) n)), (3, .ref (ga j)), (0, .ref d), (1, .int p0), (2, .int p1)] → W p l e (headSpec w_D_share ({ frames := 7, cells := 2, slots := 12, locals := 120 })).room s m args below meth c H [] 2 12 Q (F0 m 51 ls [])) :
    ∀ (k i : Nat) (ls : Array Slot), i + k = n → lv_has ls 6 [(5, .int (nI i)), (4, .int (kg_sh p1 (x0, x1, x2, x3, x4, x5, x6) i)), (3, .ref (ga j)), (0, .ref d), (1, .int p0), (2, .int p1)] → W p l e (headSpec w_D_share ({ frames := 7, cells := 2, slots := 12, locals := 120 })).room s m args below meth c H [] 2 12 Q (F0 m 17 ls []) := by
  intro k
  induction k with
  | zero =>
    intro i ls hi hl
    have hin : i = n := by omega
    subst hin
    refine lv_iload hx hb d_D_share_17 (lv_at hl 0 rfl) ?_
    refine lv_aload_n hx hb d_D_share_19 rfl (lv_at hl 3 rfl) ?_
    refine va_get (D := (dC, dI)) (ci := 0) (v := .int (nI i)) (C := R_D) (T := F_D) (N := 4) hx hb hw i_D hown hK hP 0 rfl rfl 0 (by decide) (hw _ kb_82) (fun _ h9 => h9) rfl d_D_share_20 ?_
    refine lv_icmp_ge (tgt := 51) hx hb d_D_share_23 (by decide) (fun c_1 => ?_) (fun c_1 => ?_)
    · exact kk ls hl
    · exact absurd (nI_le (Nat.le_refl i) (by omega)) c_1
  | succ k ih =>
    intro i ls hi hl
    refine lv_iload hx hb d_D_share_17 (lv_at hl 0 rfl) ?_
    refine lv_aload_n hx hb d_D_share_19 rfl (lv_at hl 3 rfl) ?_
    refine va_get (D := (dC, dI)) (ci := 0) (v := .int (nI n)) (C := R_D) (T := F_D) (N := 4) hx hb hw i_D hown hK hP 0 rfl rfl 0 (by decide) (hw _ kb_82) (fun _ h9 => h9) rfl d_D_share_20 ?_
    refine lv_icmp_ge (tgt := 51) hx hb d_D_share_23 (by decide) (fun c_1 => ?_) (fun c_1 => ?_)
    · exact absurd c_1 (nI_ge (a := i) (b := n) (by omega) (by omega))
    · refine lv_aload_n hx hb d_D_share_26 rfl (lv_at hl 2 rfl) ?_
      refine lv_iload hx hb d_D_share_27 (lv_at hl 0 rfl) ?_
      refine lv_iload_n hx hb d_D_share_29 rfl (lv_at hl 5 rfl) ?_
      refine vp_callSi (W.runV (As := [.int (nI i), .int p1]) (rest := []) ⟨hx, hb, hml, hown, hw⟩ (c_G_gives l hnd (nI n) tm lf wr G hj x0 x1 x2 x3 x4 x5 x6 (nI i) p1 _) (cwV 2 hw (kb_V kb_300 kb_268 kb_269 kb_4 kb_270) rfl rfl rfl (by decide +kernel) ⟨Nat.le_of_ble_eq_true rfl, Nat.le_of_ble_eq_true rfl⟩) (kPV (va_recv hK hP (ci := 2) (q0 := (3 * j + 3)) rfl (kw_gG hj)) hP hK) rfl rfl hl.1 rfl (lv_room (Nat.le_of_ble_eq_true rfl)) d_D_share_30 ⟨Nat.le_of_ble_eq_true rfl, Nat.le_of_ble_eq_true rfl⟩) (fun r_1 er_1 => ?_)
      subst er_1
      refine lv_if_eq (tgt := 45) hx hb d_D_share_33 (by decide) (fun c_2 => ?_) (fun c_2 => ?_)
      · refine lv_iinc (v := (nI i) + 1) (lv' := [(5, .int ((nI i) + 1)), (4, .int (kg_sh p1 (x0, x1, x2, x3, x4, x5, x6) i)), (3, .ref (ga j)), (0, .ref d), (1, .int p0), (2, .int p1)]) hx hb d_D_share_45 hl (k := 0) rfl rfl (by decide) rfl (fun ls hl => ?_)
        refine lv_goto (tgt := 17) hx hb d_D_share_48 (by decide) ?_
        have hs : kg_sh p1 (x0, x1, x2, x3, x4, x5, x6) (i + 1) = kg_sh p1 (x0, x1, x2, x3, x4, x5, x6) i := by simp only [kg_sh, if_pos c_2]
        refine ih (i + 1) ls (by omega) ?_
        rw [nI_succ, hs]
        exact lv_sub hl [0, 1, 2, 3, 4, 5] rfl
      · refine lv_iload hx hb d_D_share_36 (lv_at hl 1 rfl) ?_
        refine lv_iconst (v := 1) hx hb d_D_share_38 (by decide) ?_
        refine lv_iload hx hb d_D_share_39 (lv_at hl 0 rfl) ?_
        refine lv_ishl hx hb d_D_share_41 ?_
        refine lv_ior hx hb d_D_share_42 ?_
        refine lv_istore (lv' := [(4, .int ((kg_sh p1 (x0, x1, x2, x3, x4, x5, x6) i) ||| ((1 : Int32) <<< ((nI i) &&& 31)))), (5, .int (nI i)), (3, .ref (ga j)), (0, .ref d), (1, .int p0), (2, .int p1)]) hx hb d_D_share_43 hl (by decide) rfl (fun ls hl => ?_)
        refine lv_iinc (v := (nI i) + 1) (lv' := [(5, .int ((nI i) + 1)), (4, .int ((kg_sh p1 (x0, x1, x2, x3, x4, x5, x6) i) ||| ((1 : Int32) <<< ((nI i) &&& 31)))), (3, .ref (ga j)), (0, .ref d), (1, .int p0), (2, .int p1)]) hx hb d_D_share_45 hl (k := 1) rfl rfl (by decide) rfl (fun ls hl => ?_)
        refine lv_goto (tgt := 17) hx hb d_D_share_48 (by decide) ?_
        have hs : kg_sh p1 (x0, x1, x2, x3, x4, x5, x6) (i + 1) = (kg_sh p1 (x0, x1, x2, x3, x4, x5, x6) i) ||| ((1 : Int32) <<< ((nI i) &&& 31)) := by simp only [kg_sh, if_neg c_2]
        refine ih (i + 1) ls (by omega) ?_
        rw [nI_succ, hs]
        exact lv_sub hl [0, 1, 2, 3, 4, 5] rfl
set_option maxHeartbeats 4000000 in
set_option maxRecDepth 100000 in
theorem c_D_share (l : Launch) (hl0 : l.stackTraces = false) {dC : Nat → ClassId} {dI : Nat → Nat → Nat} {cI cJ cR : ClassId} {d ar nb : Nat} {ga ha oa : Nat → Nat} (hnd : (kad d ar nb ga ha oa).Nodup) (lg tm lf wr : Int32) (G : Nat → kGV) (p0 : Int32) (p1 : Int32) (hlg : ∃ n : Nat, n ≤ 8 ∧ lg = nI n) (sz : Nat) : MetT l y_D_share w_D_share ({ frames := 7, cells := 2, slots := 12, locals := 120 }) (kPreT (dC, dI) vwCl (kty cI cJ cR) [.ref d, .int p0, .int p1] sz (kw cI cJ cR d ar nb ga ha oa lg tm lf wr G)) (kt_Or kt_N (va_Qi (fun (r : Int32) (u : kDV) => (vp_in p0 8 ∧ vp_in p1 8) ∧ r = kg_sh p1 (G p0.toNatClampNeg) lg.toNatClampNeg ∧ u = (lg, tm, lf, wr, G)) (fun u t => va_P (dC, dI) vwCl (kwv cI cJ cR d ar nb ga ha oa u) t.heap) (kA (kad d ar nb ga ha oa) sz)) (¬ (vp_in p0 8 ∧ vp_in p1 8))) 2 12 (kA (kad d ar nb ga ha oa) sz) := by
  refine kt_ofW (cc := b_D_share) (maxL := 6) (ret := (some .int)) (by decide) rfl ?_
  intro p e s m args below meth c s₁ B hml hv
  obtain ⟨⟨rfl, hsz, hP, hK⟩, hZ⟩ := hv
  have hx := B.exec
  have hb := B.bytes
  have hr := B.returns
  have hts := atoms_spec (ws := w_D_share) B.pre
  have hw := fun (w : Cond) (h : w ∈ kb_B) => hts w (List.mem_cons_of_mem _ h)
  have hown : s.vm.findClass R_D = some m.cls := findClass_of_methodNamed B.named
  have hlocks := B.notSynchronized
  have hne := B.noHandlers (hts _ List.mem_cons_self)
  have htr : e.platform.stackTraces = false := by rw [Example.NoTraceControls.admits_follows B.admits]; exact hl0
  subst hsz
  generalize hAe : kA (kad d ar nb ga ha oa) s.heap.size = A
  have hA : ∀ q : Nat, s.heap.size ≤ q → A q := fun q h => by rw [← hAe]; exact Or.inr h
  have hAL : ∀ q ∈ (kad d ar nb ga ha oa), A q := fun q h => by rw [← hAe]; exact Or.inl h
  have hS : va_S A s.heap s.heap [] := va_S.rf
  have hl := lv_entry ([.ref d, .int p0, .int p1]) (n := 6) (Nat.le_of_ble_eq_true rfl)
  rw [lg_entry_eq]
  generalize (lg_sl ([.ref d, .int p0, .int p1]) ++ List.replicate (6 - (lg_sl ([.ref d, .int p0, .int p1])).length) Slot.unset).toArray = ls at hl ⊢
  have hl : lv_has ls 6 [(0, .ref d), (1, .int p0), (2, .int p1)] := hl
  obtain ⟨n, hn, rfl⟩ := hlg
  refine lv_aload_n hx hb d_D_share_0 rfl (lv_at hl 0 rfl) ?_
  refine lv_iload_n hx hb d_D_share_1 rfl (lv_at hl 1 rfl) ?_
  refine kt_callP (kt_runV (As := [.int p0]) (rest := []) ⟨hx, hb, hml, hown, hw⟩ (c_D_groupAt l hl0 hnd (nI n) tm lf wr G p0 _) (cwV 1 hw (kb_V kb_124 kb_126 kb_s0 kb_1 kb_127) rfl rfl rfl (by decide +kernel) ⟨Nat.le_of_ble_eq_true rfl, Nat.le_of_ble_eq_true rfl⟩) (kPVT (va_recv hK hP (ci := 0) (q0 := 0) rfl rfl) hP hK hZ (fun _ _ h => h)) rfl rfl hl.1 rfl (lv_room (Nat.le_of_ble_eq_true rfl)) d_D_share_2 ⟨Nat.le_of_ble_eq_true rfl, Nat.le_of_ble_eq_true rfl⟩) hne hlocks (by decide) (by decide) (fun t x ht hW hX => Or.inr ⟨x, rfl, fun h => ht h.1, hX⟩) (fun v_1 hv_1 => ?_)
  obtain ⟨rfl, hp_p0⟩ := hv_1
  have hj : p0.toNatClampNeg < 8 := Nat.not_le.mp fun q => hp_p0 (Or.inr q)
  generalize hjj : p0.toNatClampNeg = j at hj ⊢
  rw [← kv_at G j] at hP
  generalize hGj : G j = gv at hP
  obtain ⟨x0, x1, x2, x3, x4, x5, x6⟩ := gv
  have hGu : va_up G j (x0, x1, x2, x3, x4, x5, x6) = G := by rw [← hGj]; exact kv_at G j
  refine lv_astore_n (lv' := [(3, .ref (ga j)), (0, .ref d), (1, .int p0), (2, .int p1)]) hx hb d_D_share_5 rfl hl (by decide) rfl (fun ls hl => ?_)
  refine lv_aload_n hx hb d_D_share_6 rfl (lv_at hl 1 rfl) ?_
  refine lv_iload_n hx hb d_D_share_7 rfl (lv_at hl 3 rfl) ?_
  refine kt_callP (kt_runV (As := [.int p1]) (rest := []) ⟨hx, hb, hml, hown, hw⟩ (c_D_checkMember l hl0 hnd (nI n) tm lf wr (va_up G j (x0, x1, x2, x3, x4, x5, x6)) p1 _) (cwV 1 hw (kb_V kb_194 kb_196 kb_s2 kb_1 kb_197) rfl rfl rfl (by decide +kernel) ⟨Nat.le_of_ble_eq_true rfl, Nat.le_of_ble_eq_true rfl⟩) (kPVT (va_recv hK hP (ci := 0) (q0 := 0) rfl rfl) hP hK hZ (fun _ _ h => h)) rfl rfl hl.1 rfl (lv_room (Nat.le_of_ble_eq_true rfl)) d_D_share_8 ⟨Nat.le_of_ble_eq_true rfl, Nat.le_of_ble_eq_true rfl⟩) hne hlocks (by decide) (by decide) (fun t x ht hW hX => Or.inr ⟨x, rfl, fun h => ht h.2, hX⟩) (fun v_2 hv_2 => ?_)
  obtain ⟨rfl, hp_p1⟩ := hv_2
  refine lv_iconst (v := 0) hx hb d_D_share_11 (by decide) ?_
  refine lv_istore (lv' := [(4, .int 0), (3, .ref (ga j)), (0, .ref d), (1, .int p0), (2, .int p1)]) hx hb d_D_share_12 hl (by decide) rfl (fun ls hl => ?_)
  refine lv_iconst (v := 0) hx hb d_D_share_14 (by decide) ?_
  refine lv_istore (lv' := [(5, .int 0), (4, .int 0), (3, .ref (ga j)), (0, .ref d), (1, .int p0), (2, .int p1)]) hx hb d_D_share_15 hl (by decide) rfl (fun ls hl => ?_)
  refine lp_D_share hnd hn hj hx hb hml hown hw hK hP (fun ls hl => ?_) n 0 ls (Nat.zero_add n) (lv_sub hl [0, 1, 2, 3, 4, 5] rfl)
  refine lv_iload hx hb d_D_share_51 (lv_at hl 1 rfl) ?_
  refine W.widen (k := 2) (n := 12) (by decide) (by decide) ?_
  exact kt_W (fun _ h => kt_of h) (W.iret (v := (kg_sh p1 (x0, x1, x2, x3, x4, x5, x6) n)) hx hb hr (fun t ht hW => Or.inl ⟨⟨_, (nI n, tm, lf, wr, (va_up G j (x0, x1, x2, x3, x4, x5, x6))), rfl, ⟨⟨hp_p0, hp_p1⟩, by first | (simp only [hjj, hGj, hGu, nI_clamp (show n < 2 ^ 31 by omega)]; done) | (simp [hjj, hGj, hGu, nI_clamp (show n < 2 ^ 31 by omega)]; done), by first | (simp only [hjj, hGj, hGu, nI_clamp (show n < 2 ^ 31 by omega)]; done) | (simp [hjj, hGj, hGu, nI_clamp (show n < 2 ^ 31 by omega)]; done)⟩, by show va_P _ _ _ t.heap; rw [ht]; exact hP⟩, hS.F ht⟩) hS.2.2 d_D_share_53)
set_option maxHeartbeats 4000000 in
set_option maxRecDepth 100000 in
theorem lp_D_ticks {p : Program} {l : Launch} {e : Env} {s : State} {m : MethodId} {args : Array Value} {below : List Frame} {meth : Method} {c : Code} {Q : State → Prop} {dC : Nat → ClassId} {dI : Nat → Nat → Nat} {cI cJ cR : ClassId} {d ar nb : Nat} {ga ha oa : Nat → Nat} (hnd : (kad d ar nb ga ha oa).Nodup) {n : Nat} (hn : n ≤ 200) {v : kDV} {A : Nat → Prop} (hx : p.tables.exec = Jvm.exec) (hb : c.code = b_D_ticks) (hml : c.maxLocals = 3) (hown : s.vm.findClass R_D = some m.cls) (hw : ∀ w ∈ kb_B, w.before args s = true) (hK : va_K (dC, dI) vwCl (kty cI cJ cR) s) (hA : ∀ q : Nat, s.heap.size ≤ q → A q) (hAL : ∀ q ∈ (kad d ar nb ga ha oa), A q)
    (kk : ∀ (H : Heap) (locs : List Loc) (ls : Array Slot), va_P (dC, dI) vwCl (kwv cI cJ cR d ar nb ga ha oa (kd_ticks v n)) H → va_S A s.heap H locs → lv_has ls 3 [(2, .int (nI n)), (0, .ref d), (1, .int (nI n))] → W p l e (headSpec w_D_ticks ({ frames := 6, cells := 1, slots := 6, locals := 140 })).room s m args below meth c H locs 0 0 Q (F0 m 60 ls [])) :
    ∀ (k i : Nat) (H : Heap) (locs : List Loc) (ls : Array Slot), i + k = n → va_P (dC, dI) vwCl (kwv cI cJ cR d ar nb ga ha oa (kd_ticks v i)) H → va_S A s.heap H locs → lv_has ls 3 [(2, .int (nI i)), (0, .ref d), (1, .int (nI n))] → W p l e (headSpec w_D_ticks ({ frames := 6, cells := 1, slots := 6, locals := 140 })).room s m args below meth c H locs 0 0 Q (F0 m 45 ls []) := by
  intro k
  induction k with
  | zero =>
    intro i H locs ls hi hP hS hl
    have hin : i = n := by omega
    subst hin
    refine lv_iload_n hx hb d_D_ticks_45 rfl (lv_at hl 0 rfl) ?_
    refine lv_iload_n hx hb d_D_ticks_46 rfl (lv_at hl 2 rfl) ?_
    refine lv_icmp_ge (tgt := 60) hx hb d_D_ticks_47 (by decide) (fun c_1 => ?_) (fun c_1 => ?_)
    · exact kk H locs ls hP hS hl
    · exact absurd (nI_le (Nat.le_refl i) (by omega)) c_1
  | succ k ih =>
    intro i H locs ls hi hP hS hl
    generalize hz : kd_ticks v i = z at hP
    obtain ⟨lg, tm, lf, wr, G⟩ := z
    refine lv_iload_n hx hb d_D_ticks_45 rfl (lv_at hl 0 rfl) ?_
    refine lv_iload_n hx hb d_D_ticks_46 rfl (lv_at hl 2 rfl) ?_
    refine lv_icmp_ge (tgt := 60) hx hb d_D_ticks_47 (by decide) (fun c_1 => ?_) (fun c_1 => ?_)
    · exact absurd c_1 (nI_ge (a := i) (b := n) (by omega) (by omega))
    · refine lv_aload_n hx hb d_D_ticks_50 rfl (lv_at hl 1 rfl) ?_
      refine kc_v (Wd := kwv cI cJ cR d ar nb ga ha oa) (va_runV (As := []) (rest := []) ⟨hx, hb, hml, hown, hw⟩ (c_D_tick l hnd lg tm lf wr G _) (cwV 0 hw (kb_V kb_320 kb_322 kb_s4 kb_1 kb_323) rfl rfl rfl (by decide +kernel) ⟨Nat.le_of_ble_eq_true rfl, Nat.le_of_ble_eq_true rfl⟩) (kPV (va_recv hK hP (ci := 0) (q0 := 0) rfl rfl) hP hK) rfl rfl hl.1 rfl (lv_room (Nat.le_of_ble_eq_true rfl)) d_D_ticks_51 ⟨Nat.le_of_ble_eq_true rfl, Nat.le_of_ble_eq_true rfl⟩) hS hA hAL (fun u_1 H locs hw hP _ _ hS => ?_)
      subst hw
      refine lv_iinc (v := (nI i) + 1) (lv' := [(2, .int ((nI i) + 1)), (0, .ref d), (1, .int (nI n))]) hx hb d_D_ticks_54 hl (k := 0) rfl rfl (by decide) rfl (fun ls hl => ?_)
      refine lv_goto (tgt := 45) hx hb d_D_ticks_57 (by decide) ?_
      refine ih (i + 1) H locs ls (by omega) ?_ hS ?_
      · show va_P _ _ (kwv cI cJ cR d ar nb ga ha oa (kd_tick (kd_ticks v i))) H; rw [hz]; exact hP
      · rw [nI_succ]; exact lv_sub hl [0, 1, 2] rfl
set_option maxHeartbeats 4000000 in
set_option maxRecDepth 100000 in
theorem c_D_ticks (l : Launch) (hl0 : l.stackTraces = false) {dC : Nat → ClassId} {dI : Nat → Nat → Nat} {cI cJ cR : ClassId} {d ar nb : Nat} {ga ha oa : Nat → Nat} (hnd : (kad d ar nb ga ha oa).Nodup) (lg tm lf wr : Int32) (G : Nat → kGV) (p0 : Int32) (sz : Nat) : MetT l y_D_ticks w_D_ticks ({ frames := 6, cells := 1, slots := 6, locals := 140 }) (kPreT (dC, dI) vwCl (kty cI cJ cR) [.ref d, .int p0] sz (kw cI cJ cR d ar nb ga ha oa lg tm lf wr G)) (kt_Or kt_N (va_Qi (fun (r : Int32) (u : kDV) => (¬ p0 < 1 ∧ p0 ≤ 200 ∧ tm + p0 ≤ 1000000) ∧ (r, u) = ((kd_ticks (lg, tm, lf, wr, G) p0.toNatClampNeg).2.1, kd_ticks (lg, tm, lf, wr, G) p0.toNatClampNeg)) (fun u t => va_P (dC, dI) vwCl (kwv cI cJ cR d ar nb ga ha oa u) t.heap) (kA (kad d ar nb ga ha oa) sz)) (¬ (¬ p0 < 1 ∧ p0 ≤ 200 ∧ tm + p0 ≤ 1000000))) 1 6 (kA (kad d ar nb ga ha oa) sz) := by
  refine kt_ofW (cc := b_D_ticks) (maxL := 3) (ret := (some .int)) (by decide) rfl ?_
  intro p e s m args below meth c s₁ B hml hv
  obtain ⟨⟨rfl, hsz, hP, hK⟩, hZ⟩ := hv
  have hx := B.exec
  have hb := B.bytes
  have hr := B.returns
  have hts := atoms_spec (ws := w_D_ticks) B.pre
  have hw := fun (w : Cond) (h : w ∈ kb_B) => hts w (List.mem_cons_of_mem _ h)
  have hown : s.vm.findClass R_D = some m.cls := findClass_of_methodNamed B.named
  have hlocks := B.notSynchronized
  have hne := B.noHandlers (hts _ List.mem_cons_self)
  have htr : e.platform.stackTraces = false := by rw [Example.NoTraceControls.admits_follows B.admits]; exact hl0
  subst hsz
  generalize hAe : kA (kad d ar nb ga ha oa) s.heap.size = A
  have hA : ∀ q : Nat, s.heap.size ≤ q → A q := fun q h => by rw [← hAe]; exact Or.inr h
  have hAL : ∀ q ∈ (kad d ar nb ga ha oa), A q := fun q h => by rw [← hAe]; exact Or.inl h
  have hS : va_S A s.heap s.heap [] := va_S.rf
  have hl := lv_entry ([.ref d, .int p0]) (n := 3) (Nat.le_of_ble_eq_true rfl)
  rw [lg_entry_eq]
  generalize (lg_sl ([.ref d, .int p0]) ++ List.replicate (3 - (lg_sl ([.ref d, .int p0])).length) Slot.unset).toArray = ls at hl ⊢
  have hl : lv_has ls 3 [(0, .ref d), (1, .int p0)] := hl
  refine lv_iload_n hx hb d_D_ticks_0 rfl (lv_at hl 1 rfl) ?_
  refine lv_iconst (v := 1) hx hb d_D_ticks_1 (by decide) ?_
  refine lv_icmp_lt (tgt := 12) hx hb d_D_ticks_2 (by decide) (fun c_1 => ?_) (fun c_1 => ?_)
  · refine W.widen (k := 0) (n := 0) (by decide) (by decide) ?_
    obtain ⟨q9, hq9⟩ := hZ.2.use hown (k := 127) (tx := "n is not 1 .. 200") (by decide)
    exact kt_throw (own := R_D) (xN := kt_N) (up := kt_U) (tx := "n is not 1 .. 200") (q := q9) hx htr hb (hl.1.trans hml.symm) hown hne hlocks (by decide +kernel) (by decide +kernel) hZ.1.use (hw _ kb_128) (hw _ kb_129) (hw _ kb_10) hq9 (Nat.le_refl _) d_D_ticks_12 d_D_ticks_15 d_D_ticks_16 d_D_ticks_18 d_D_ticks_21 (Nat.le_of_ble_eq_true rfl) (Nat.le_of_ble_eq_true rfl) (Nat.le_of_ble_eq_true rfl) (Nat.le_of_ble_eq_true rfl) (fun t x hW hX => Or.inr ⟨x, rfl, fun h => h.1 c_1, hX⟩)
  · refine lv_iload_n hx hb d_D_ticks_5 rfl (lv_at hl 1 rfl) ?_
    refine lv_sipush (v := 200) hx hb d_D_ticks_6 (by decide) ?_
    refine lv_icmp_le (tgt := 22) hx hb d_D_ticks_9 (by decide) (fun c_2 => ?_) (fun c_2 => ?_)
    · refine lv_aload_n hx hb d_D_ticks_22 rfl (lv_at hl 0 rfl) ?_
      refine va_get (D := (dC, dI)) (ci := 0) (v := .int tm) (C := R_D) (T := F_D) (N := 4) hx hb hw i_D hown hK hP 0 rfl rfl 3 (by decide) (hw _ kb_85) (fun _ h9 => h9) rfl d_D_ticks_23 ?_
      refine lv_iload_n hx hb d_D_ticks_26 rfl (lv_at hl 1 rfl) ?_
      refine lv_iadd hx hb d_D_ticks_27 ?_
      refine lv_ldc (v := 1000000) hx hb hown (hw _ kb_318) d_D_ticks_28 ?_
      refine lv_icmp_le (tgt := 43) hx hb d_D_ticks_30 (by decide) (fun c_3 => ?_) (fun c_3 => ?_)
      · refine lv_iconst (v := 0) hx hb d_D_ticks_43 (by decide) ?_
        refine lv_istore_n (lv' := [(2, .int 0), (0, .ref d), (1, .int p0)]) hx hb d_D_ticks_44 rfl hl (by decide) rfl (fun ls hl => ?_)
        obtain ⟨n, hn, rfl⟩ := nI_of2 (M := 200) (n := 200) rfl (k_n1 c_1) c_2
        refine lp_D_ticks (v := (lg, tm, lf, wr, G)) hnd hn hx hb hml hown hw hK hA hAL (fun H locs ls hP hS hl => ?_) n 0 _ _ ls (Nat.zero_add n) hP hS (lv_sub hl [0, 1, 2] rfl)
        have hnn : (nI n).toNatClampNeg = n := nI_clamp (by omega)
        generalize hz : kd_ticks (lg, tm, lf, wr, G) n = z at hP
        obtain ⟨lg1, tm1, lf1, wr1, G1⟩ := z
        have hP : va_P (dC, dI) vwCl (kw cI cJ cR d ar nb ga ha oa lg1 tm1 lf1 wr1 G1) H := hP
        refine lv_aload_n hx hb d_D_ticks_60 rfl (lv_at hl 1 rfl) ?_
        refine va_get (D := (dC, dI)) (ci := 0) (v := .int tm1) (C := R_D) (T := F_D) (N := 4) hx hb hw i_D hown hK hP 0 rfl rfl 3 (by decide) (hw _ kb_85) (fun _ h9 => h9) rfl d_D_ticks_61 ?_
        refine W.widen (k := 1) (n := 6) (by decide) (by decide) ?_
        exact kt_W (fun _ h => kt_of h) (W.iret (v := tm1) hx hb hr (fun t ht hW => Or.inl ⟨⟨_, (lg1, tm1, lf1, wr1, G1), rfl, ⟨⟨c_1, c_2, c_3⟩, by first | (simp only [hnn, hz]; done) | (simp [hnn, hz]; done)⟩, by show va_P _ _ _ t.heap; rw [ht]; exact hP⟩, hS.F ht⟩) hS.2.2 d_D_ticks_64)
      · refine W.widen (k := 0) (n := 0) (by decide) (by decide) ?_
        obtain ⟨q9, hq9⟩ := hZ.2.use hown (k := 130) (tx := "TIME would be above 1000000") (by decide)
        exact kt_throw (own := R_D) (xN := kt_N) (up := kt_U) (tx := "TIME would be above 1000000") (q := q9) hx htr hb (hl.1.trans hml.symm) hown hne hlocks (by decide +kernel) (by decide +kernel) hZ.1.use (hw _ kb_128) (hw _ kb_129) (hw _ kb_10) hq9 (Nat.le_refl _) d_D_ticks_33 d_D_ticks_36 d_D_ticks_37 d_D_ticks_39 d_D_ticks_42 (Nat.le_of_ble_eq_true rfl) (Nat.le_of_ble_eq_true rfl) (Nat.le_of_ble_eq_true rfl) (Nat.le_of_ble_eq_true rfl) (fun t x hW hX => Or.inr ⟨x, rfl, fun h => c_3 h.2.2, hX⟩)
    · refine W.widen (k := 0) (n := 0) (by decide) (by decide) ?_
      obtain ⟨q9, hq9⟩ := hZ.2.use hown (k := 127) (tx := "n is not 1 .. 200") (by decide)
      exact kt_throw (own := R_D) (xN := kt_N) (up := kt_U) (tx := "n is not 1 .. 200") (q := q9) hx htr hb (hl.1.trans hml.symm) hown hne hlocks (by decide +kernel) (by decide +kernel) hZ.1.use (hw _ kb_128) (hw _ kb_129) (hw _ kb_10) hq9 (Nat.le_refl _) d_D_ticks_12 d_D_ticks_15 d_D_ticks_16 d_D_ticks_18 d_D_ticks_21 (Nat.le_of_ble_eq_true rfl) (Nat.le_of_ble_eq_true rfl) (Nat.le_of_ble_eq_true rfl) (Nat.le_of_ble_eq_true rfl) (fun t x hW hX => Or.inr ⟨x, rfl, fun h => c_2 h.2.1, hX⟩)
end
section
/-! a world whose cells are apart -/
theorem kl_oneD {D : va_G} {cl : List vw_C} {ws : va_W} {A : Nat → Prop} {H H1 : Heap} {k x : Nat} {e0 e1 : va_E} (hP : va_P D cl ws H) (hD : va_D A ws) (hk : ws[k]? = some (x, e0)) (hP1 : va_P D cl [(x, e1)] H1) (ho : ∀ q : Nat, q < H.size → q ∉ [x] → H1[q]? = H[q]?) : va_P D cl (ws.set k (x, e1)) H1 := by
  have hl := (List.getElem?_eq_some_iff.mp hk).1
  intro i q hi
  by_cases hik : i = k
  · subst hik
    rw [List.getElem?_set_self hl] at hi
    cases hi
    exact hP1 0 _ rfl
  · rw [List.getElem?_set_ne (Ne.symm hik)] at hi
    refine (hP i q hi).kept (ho q.1 (hP i q hi).lt (fun h => ?_))
    exact hik (hD.1 i k q (x, e0) hi hk (List.mem_singleton.mp h))
theorem kl_tail {A : Nat → Prop} {x : Nat × va_E} {ws : va_W} (h : va_D A (x :: ws)) : va_D A ws :=
  ⟨fun i j p q hi hj e => by have := h.1 (i + 1) (j + 1) p q hi hj e; omega, fun k q hk => h.2 (k + 1) q hk⟩
theorem kl_nd {A : Nat → Prop} : ∀ {ws : va_W}, va_D A ws → (ws.map Prod.fst).Nodup
  | [], _ => by simp
  | x :: ws, h => by
    rw [List.map_cons, List.nodup_cons]
    refine ⟨fun hm => ?_, kl_nd (kl_tail h)⟩
    obtain ⟨y, hy, e⟩ := List.mem_map.mp hm
    obtain ⟨j, hj⟩ := List.getElem?_of_mem hy
    exact absurd (h.1 0 (j + 1) x y rfl hj e.symm) (by omega)
set_option maxHeartbeats 4000000 in
set_option maxRecDepth 100000 in
theorem c_N_init (l : Launch) {dC : Nat → ClassId} {dI : Nat → Nat → Nat} {cI cJ cR : ClassId} (q : Nat) (a b : Int32) (sz : Nat) : Met l y_N_init w_N_init ({ frames := 1, cells := 0, slots := 0, locals := 20 }) (kPre (dC, dI) vwCl (kty cI cJ cR) [.ref q] sz [(q, .inr (1, [.int a, .int b]))]) (va_Qv (fun _ : Unit => True) (fun _ t => va_P (dC, dI) vwCl [(q, .inr (1, [.int 1000, .int b]))] t.heap) (kA [q] sz)) 0 0 (kA [q] sz) := by
  refine Met.ofW (cc := b_N_init) (maxL := 1) (ret := none) (by decide) rfl ?_
  intro p e s m args below meth c s₁ B hml hv
  obtain ⟨rfl, hsz, hP, hK⟩ := hv
  have hx := B.exec
  have hb := B.bytes
  have hr := B.returns
  have hts := atoms_spec (ws := w_N_init) B.pre
  have hw := fun (w : Cond) (h : w ∈ kb_B) => hts w (List.mem_cons_of_mem _ h)
  have hown : s.vm.findClass R_N = some m.cls := findClass_of_methodNamed B.named
  have hlocks := B.notSynchronized
  have hin : meth.name = "<init>" := (name_of_methodNamed B.named B.method).1
  subst hsz
  generalize hAe : kA [q] s.heap.size = A
  have hA : ∀ q : Nat, s.heap.size ≤ q → A q := fun q h => by rw [← hAe]; exact Or.inr h
  have hAL : ∀ z ∈ [q], A z := fun z h => by rw [← hAe]; exact Or.inl h
  have hS : va_S A s.heap s.heap [] := va_S.rf
  have hl := lv_entry ([.ref q]) (n := 1) (Nat.le_of_ble_eq_true rfl)
  rw [lg_entry_eq]
  generalize (lg_sl ([.ref q]) ++ List.replicate (1 - (lg_sl ([.ref q])).length) Slot.unset).toArray = ls at hl ⊢
  have hl : lv_has ls 1 [(0, .ref q)] := hl
  have hD : va_D A [(q, .inr (1, [.int a, .int b]))] := kl_D (by simp) (fun z h => hAL z h)
  refine lv_aload_n hx hb d_N_init_0 rfl (lv_at hl 0 rfl) ?_
  refine W.objInit hx hb hown (hw _ kb_31) (hw _ kb_18) (hw _ kb_19) rfl (by rw [hml]; exact hl.1) rfl d_N_init_1 (Nat.le_of_ble_eq_true rfl) (Nat.le_of_ble_eq_true rfl) ?_
  refine W.eq (g2 := F0 m 4 ls []) rfl ?_
  refine lv_aload_n hx hb d_N_init_4 rfl (lv_at hl 0 rfl) ?_
  refine lv_sipush (v := 1000) hx hb d_N_init_5 (by decide) ?_
  refine va_put (D := (dC, dI)) (ci := 1) (v := .int 1000) (ty := .int) (C := R_N) (T := F_N) (N := 2) hx hb hw i_N t_N t_N_ok n_N hown hK hP hD hS 0 rfl rfl 0 (by decide) (hw _ kb_32) (fun _ h9 => h9) rfl (by decide +kernel) rfl rfl (Nat.le_of_ble_eq_true rfl) d_N_init_8 (fun H locs hP hD hS => ?_)
  have hP : va_P (dC, dI) vwCl [(q, .inr (1, [.int 1000, .int b]))] H := hP
  exact W.vret hx hb hr (fun t ht hW => ⟨⟨(), rfl, trivial, by show va_P _ _ _ t.heap; rw [ht]; exact hP⟩, hS.F ht⟩) hS.2.2 d_N_init_11
set_option maxHeartbeats 4000000 in
set_option maxRecDepth 100000 in
theorem c_G_init (l : Launch) {dC : Nat → ClassId} {dI : Nat → Nat → Nat} {cI cJ cR : ClassId} (g : Nat) (sz : Nat) : Met l y_G_init w_G_init ({ frames := 1, cells := 2, slots := 16, locals := 40 }) (kPre (dC, dI) vwCl (kty cI cJ cR) [.ref g] sz [(g, .inr (2, [.int 0, .int 0, .int 0, .int 0, .int 0, .null, .null]))]) (va_Qv (fun u : Nat × Nat => sz ≤ u.1 ∧ sz ≤ u.2 ∧ u.1 ≠ u.2) (fun u t => va_P (dC, dI) vwCl [(g, .inr (2, [.int 0, .int 0, .int 0, .int 0, .int 0, .ref u.1, .ref u.2])), (u.1, .inl (cI, 8, .inl (fun _ => 0))), (u.2, .inl (cJ, 8, .inr (.inl (fun _ => -1))))] t.heap) (kA [g] sz)) 2 16 (kA [g] sz) := by
  refine Met.ofW (cc := b_G_init) (maxL := 1) (ret := none) (by decide) rfl ?_
  intro p e s m args below meth c s₁ B hml hv
  obtain ⟨rfl, hsz, hP, hK⟩ := hv
  have hx := B.exec
  have hb := B.bytes
  have hr := B.returns
  have hts := atoms_spec (ws := w_G_init) B.pre
  have hw := fun (w : Cond) (h : w ∈ kb_B) => hts w (List.mem_cons_of_mem _ h)
  have hown : s.vm.findClass R_G = some m.cls := findClass_of_methodNamed B.named
  have hlocks := B.notSynchronized
  have hin : meth.name = "<init>" := (name_of_methodNamed B.named B.method).1
  subst hsz
  generalize hAe : kA [g] s.heap.size = A
  have hA : ∀ q : Nat, s.heap.size ≤ q → A q := fun q h => by rw [← hAe]; exact Or.inr h
  have hAL : ∀ z ∈ [g], A z := fun z h => by rw [← hAe]; exact Or.inl h
  have hS : va_S A s.heap s.heap [] := va_S.rf
  have hl := lv_entry ([.ref g]) (n := 1) (Nat.le_of_ble_eq_true rfl)
  rw [lg_entry_eq]
  generalize (lg_sl ([.ref g]) ++ List.replicate (1 - (lg_sl ([.ref g])).length) Slot.unset).toArray = ls at hl ⊢
  have hl : lv_has ls 1 [(0, .ref g)] := hl
  have hD : va_D A [(g, .inr (2, [.int 0, .int 0, .int 0, .int 0, .int 0, .null, .null]))] := kl_D (by simp) (fun z h => hAL z h)
  refine lv_aload_n hx hb d_G_init_0 rfl (lv_at hl 0 rfl) ?_
  refine W.objInit hx hb hown (hw _ kb_47) (hw _ kb_18) (hw _ kb_19) rfl (by rw [hml]; exact hl.1) rfl d_G_init_1 (Nat.le_of_ble_eq_true rfl) (Nat.le_of_ble_eq_true rfl) ?_
  refine W.eq (g2 := F0 m 4 ls []) rfl ?_
  refine lv_aload_n hx hb d_G_init_4 rfl (lv_at hl 0 rfl) ?_
  refine lv_iconst (v := 0) hx hb d_G_init_5 (by decide) ?_
  refine va_put (D := (dC, dI)) (ci := 2) (v := .int 0) (ty := .int) (C := R_G) (T := F_G) (N := 7) hx hb hw i_G t_G t_G_ok n_G hown hK hP hD hS 0 rfl rfl 1 (by decide) (hw _ kb_54) (fun _ h9 => h9) rfl (by decide +kernel) rfl rfl (Nat.le_of_ble_eq_true rfl) d_G_init_6 (fun H locs hP hD hS => ?_)
  have hP : va_P (dC, dI) vwCl [(g, .inr (2, [.int 0, .int 0, .int 0, .int 0, .int 0, .null, .null]))] H := hP
  have hD : va_D A [(g, .inr (2, [.int 0, .int 0, .int 0, .int 0, .int 0, .null, .null]))] := hD
  refine lv_aload_n hx hb d_G_init_9 rfl (lv_at hl 0 rfl) ?_
  refine lv_bipush (v := 8) hx hb d_G_init_10 (by decide) ?_
  refine va_newa (atype := .int) (a0 := (8, .inl (fun _ => 0))) hx hb (hw _ kb_80) rfl hK hP hD hS hA (fun _ => rfl) (by decide) rfl (by decide) (Nat.le_of_ble_eq_true rfl) (Nat.le_of_ble_eq_true rfl) d_G_init_12 (fun h cA H hK2 hP hD hS => ?_)
  obtain rfl : cI = cA := Option.some.inj ((hK2.2 0 _ rfl).2.symm.trans (hK2.2 3 _ rfl).2)
  have hP : va_P (dC, dI) vwCl [(g, .inr (2, [.int 0, .int 0, .int 0, .int 0, .int 0, .null, .null])), (h, .inl (cI, 8, .inl (fun _ => 0)))] H := hP
  have hD : va_D A [(g, .inr (2, [.int 0, .int 0, .int 0, .int 0, .int 0, .null, .null])), (h, .inl (cI, 8, .inl (fun _ => 0)))] := hD
  refine va_putF (D := (dC, dI)) (ci := 2) (v := .ref h) (ty := .array .int) (C := R_G) (T := F_G) (N := 7) hx hb hw i_G t_G t_G_ok n_G hown hK hP hD hS 0 rfl rfl 5 (by decide) (hw _ kb_61) (fun _ h9 => h9) rfl hin rfl (by decide +kernel) rfl rfl (Nat.le_of_ble_eq_true rfl) d_G_init_14 (fun H locs hP hD hS => ?_)
  have hP : va_P (dC, dI) vwCl [(g, .inr (2, [.int 0, .int 0, .int 0, .int 0, .int 0, .ref h, .null])), (h, .inl (cI, 8, .inl (fun _ => 0)))] H := hP
  have hD : va_D A [(g, .inr (2, [.int 0, .int 0, .int 0, .int 0, .int 0, .ref h, .null])), (h, .inl (cI, 8, .inl (fun _ => 0)))] := hD
  refine lv_aload_n hx hb d_G_init_17 rfl (lv_at hl 0 rfl) ?_
  refine lv_bipush (v := 8) hx hb d_G_init_18 (by decide) ?_
  refine va_newa (atype := .long) (a0 := (8, .inr (.inl (fun _ => 0)))) hx hb (hw _ kb_81) rfl hK hP hD hS hA (fun _ => rfl) (by decide) rfl (by decide) (Nat.le_of_ble_eq_true rfl) (Nat.le_of_ble_eq_true rfl) d_G_init_20 (fun o cA H hK2 hP hD hS => ?_)
  obtain rfl : cJ = cA := Option.some.inj ((hK2.2 1 _ rfl).2.symm.trans (hK2.2 3 _ rfl).2)
  have hP : va_P (dC, dI) vwCl [(g, .inr (2, [.int 0, .int 0, .int 0, .int 0, .int 0, .ref h, .null])), (h, .inl (cI, 8, .inl (fun _ => 0))), (o, .inl (cJ, 8, .inr (.inl (fun _ => 0))))] H := hP
  have hD : va_D A [(g, .inr (2, [.int 0, .int 0, .int 0, .int 0, .int 0, .ref h, .null])), (h, .inl (cI, 8, .inl (fun _ => 0))), (o, .inl (cJ, 8, .inr (.inl (fun _ => 0))))] := hD
  refine va_putF (D := (dC, dI)) (ci := 2) (v := .ref o) (ty := .array .long) (C := R_G) (T := F_G) (N := 7) hx hb hw i_G t_G t_G_ok n_G hown hK hP hD hS 0 rfl rfl 6 (by decide) (hw _ kb_63) (fun _ h9 => h9) rfl hin rfl (by decide +kernel) rfl rfl (Nat.le_of_ble_eq_true rfl) d_G_init_22 (fun H locs hP hD hS => ?_)
  have hP : va_P (dC, dI) vwCl [(g, .inr (2, [.int 0, .int 0, .int 0, .int 0, .int 0, .ref h, .ref o])), (h, .inl (cI, 8, .inl (fun _ => 0))), (o, .inl (cJ, 8, .inr (.inl (fun _ => 0))))] H := hP
  have hD : va_D A [(g, .inr (2, [.int 0, .int 0, .int 0, .int 0, .int 0, .ref h, .ref o])), (h, .inl (cI, 8, .inl (fun _ => 0))), (o, .inl (cJ, 8, .inr (.inl (fun _ => 0))))] := hD
  refine lv_aload_n hx hb d_G_init_25 rfl (lv_at hl 0 rfl) ?_
  refine va_get (D := (dC, dI)) (ci := 2) (v := .ref o) (C := R_G) (T := F_G) (N := 7) hx hb hw i_G hown hK hP 0 rfl rfl 6 (by decide) (hw _ kb_63) (fun _ h9 => h9) rfl d_G_init_26 ?_
  refine lv_ldc2 (v := -1) hx hb hown (hw _ kb_48) d_G_init_29 ?_
  have hP1 := hP.sub (ws' := [(o, .inl (cJ, 8, .inr (.inl (fun _ => 0))))]) [2] rfl
  refine kc_v (σ := Unit) (Wd := fun _ => [(o, .inl (cJ, 8, .inr (.inl (fun _ => -1))))]) (L := [o]) (va_runS (As := [.ref o, .long (-1)]) (rest := []) ⟨hx, hb, hml, hown, hw⟩ (c_J_fillL l (kty cI cJ cR) 1 rfl _ 8 _ _ (by decide) _) (va_cwS 2 hw (kb_S kb_49 kb_50 kb_5 kb_51) rfl rfl rfl (by decide +kernel) ⟨Nat.le_of_ble_eq_true rfl, Nat.le_of_ble_eq_true rfl⟩) (kPS hP1 hK) rfl rfl hl.1 rfl (lv_room (Nat.le_of_ble_eq_true rfl)) d_G_init_32 ⟨Nat.le_of_ble_eq_true rfl, Nat.le_of_ble_eq_true rfl⟩) hS hA (fun q h => by rw [List.mem_singleton.mp h]; exact hD.2 2 _ rfl) (fun u H locs _ hP1 _ ho hS => ?_)
  have hP := kl_oneD hP hD (k := 2) rfl hP1 ho
  have hP : va_P (dC, dI) vwCl [(g, .inr (2, [.int 0, .int 0, .int 0, .int 0, .int 0, .ref h, .ref o])), (h, .inl (cI, 8, .inl (fun _ => 0))), (o, .inl (cJ, 8, .inr (.inl (fun _ => -1))))] H := hP
  have hh : s.heap.size ≤ h := by
    have h1 := hD.2 1 _ rfl
    rw [← hAe] at h1
    exact h1.resolve_left (fun z => absurd (hD.1 1 0 _ _ rfl rfl (List.mem_singleton.mp z)) (by decide))
  have hoo : s.heap.size ≤ o := by
    have h1 := hD.2 2 _ rfl
    rw [← hAe] at h1
    exact h1.resolve_left (fun z => absurd (hD.1 2 0 _ _ rfl rfl (List.mem_singleton.mp z)) (by decide))
  have hne : h ≠ o := fun z => absurd (hD.1 1 2 _ _ rfl rfl z) (by decide)
  exact W.vret hx hb hr (fun t ht hW => ⟨⟨(h, o), rfl, ⟨hh, hoo, hne⟩, by show va_P _ _ _ t.heap; rw [ht]; exact hP⟩, hS.F ht⟩) hS.2.2 d_G_init_35
end
section
/-! the desk while it is made -/
section KCA
variable {D : va_G} {cl : List vw_C} {w1 w2 : va_W} {H : Heap} {A : Nat → Prop}
theorem kl_L (h : va_P D cl (w1 ++ w2) H) : va_P D cl w1 H := fun k q hk => h k q (by rw [List.getElem?_append_left (List.getElem?_eq_some_iff.mp hk).1]; exact hk)
theorem kl_R (h : va_P D cl (w1 ++ w2) H) : va_P D cl w2 H := fun k q hk => h (w1.length + k) q (by rw [List.getElem?_append_right (by omega), Nat.add_sub_cancel_left]; exact hk)
theorem kl_DL (h : va_D A (w1 ++ w2)) : va_D A w1 := ⟨fun i j p q hi hj e => h.1 i j p q (by rw [List.getElem?_append_left (List.getElem?_eq_some_iff.mp hi).1]; exact hi) (by rw [List.getElem?_append_left (List.getElem?_eq_some_iff.mp hj).1]; exact hj) e, fun k q hk => h.2 k q (by rw [List.getElem?_append_left (List.getElem?_eq_some_iff.mp hk).1]; exact hk)⟩
theorem kl_lt (h : va_P D cl w1 H) : ∀ q ∈ w1.map Prod.fst, q < H.size := by
  intro q hq
  obtain ⟨x, hx, rfl⟩ := List.mem_map.mp hq
  obtain ⟨k, hk⟩ := List.getElem?_of_mem hx
  exact (h k x hk).lt
/-- new cells beside old ones -/
theorem kl_new {w : va_W} (hD : va_D A w1) (hl : ∀ q ∈ w1.map Prod.fst, q < H.size) (hn : (w.map Prod.fst).Nodup) (hw : ∀ q ∈ w.map Prod.fst, H.size ≤ q ∧ A q) : va_D A (w1 ++ w) := by
  refine va_D.app hD (kl_D hn (fun q h => (hw q h).2)) (fun i j x y hx hy e => ?_)
  have h1 := hl x.1 (List.mem_map.mpr ⟨x, List.mem_of_getElem? hx, rfl⟩)
  have h2 := (hw y.1 (List.mem_map.mpr ⟨y, List.mem_of_getElem? hy, rfl⟩)).1
  omega
end KCA
def kG0 : Nat → kGV := fun _ => (0, 0, 0, 0, 0, fun _ => 0, fun _ => -1)
def kwp (cI cJ cR : ClassId) (d ar nb : Nat) (ga ha oa : Nat → Nat) (lg : Int32) (i : Nat) : va_W :=
  (d, .inr (0, [.int lg, .ref ar, .ref nb, .int 0])) :: (ar, .inl (cR, 8, .inr (.inr (.inr (.inr (fun q => if q < i then some (ga q) else none)))))) :: (nb, .inr (1, [.int 1000, .int 0])) :: kw_n cI cJ ga ha oa i kG0
def k_lg (x : Int32) : Int32 := if 8 < (if x < 1 then 1 else x) then 8 else (if x < 1 then 1 else x)
theorem kwp_len {cI cJ cR : ClassId} {d ar nb : Nat} {ga ha oa : Nat → Nat} {lg : Int32} {i : Nat} : (kwp cI cJ cR d ar nb ga ha oa lg i).length = 3 * i + 3 := by simp [kwp, kw_n]
theorem kw_n_succ {cI cJ : ClassId} {ga ha oa : Nat → Nat} {i g h o : Nat} : kw_n cI cJ ga ha oa i kG0 ++ [(g, .inr (2, [.int 0, .int 0, .int 0, .int 0, .int 0, .ref h, .ref o])), (h, .inl (cI, 8, .inl (fun _ => 0))), (o, .inl (cJ, 8, .inr (.inl (fun _ => -1))))] = kw_n cI cJ (va_up ga i g) (va_up ha i h) (va_up oa i o) (i + 1) kG0 := by
  have e : 3 * (i + 1) = 3 * i + 1 + 1 + 1 := by omega
  unfold kw_n
  rw [e, List.range_succ, List.range_succ, List.range_succ]
  simp only [List.map_append, List.map_cons, List.map_nil, List.append_assoc, List.cons_append, List.nil_append]
  congr 1
  · apply List.map_congr_left
    intro q hq
    have hq := List.mem_range.mp hq
    have h1 : q / 3 ≠ i := by omega
    simp [kw_a, kw_e, va_up_ne _ _ h1]
  · have a0 : 3 * i % 3 = 0 := by omega
    have a1 : (3 * i + 1) % 3 = 1 := by omega
    have a2 : (3 * i + 1 + 1) % 3 = 2 := by omega
    have b0 : 3 * i / 3 = i := by omega
    have b1 : (3 * i + 1) / 3 = i := by omega
    have b2 : (3 * i + 1 + 1) / 3 = i := by omega
    simp [kw_a, kw_e, kw_f, kG0, a0, a1, a2, b0, b1, b2, va_up_self]
theorem kwp_succ {cI cJ cR : ClassId} {d ar nb : Nat} {ga ha oa : Nat → Nat} {lg : Int32} {i g h o : Nat} : (kwp cI cJ cR d ar nb ga ha oa lg i ++ ([(g, .inr (2, [.int 0, .int 0, .int 0, .int 0, .int 0, .ref h, .ref o])), (h, .inl (cI, 8, .inl (fun _ => 0))), (o, .inl (cJ, 8, .inr (.inl (fun _ => -1))))] : va_W)).set 1 (ar, .inl (cR, 8, .inr (.inr (.inr (.inr (va_up (fun q => if q < i then some (ga q) else none) i (some g)))))))
    = kwp cI cJ cR d ar nb (va_up ga i g) (va_up ha i h) (va_up oa i o) lg (i + 1) := by
  show _ :: _ :: _ :: (kw_n cI cJ ga ha oa i kG0 ++ _) = _ :: _ :: _ :: _
  rw [kw_n_succ]
  have e : (va_up (fun q => if q < i then some (ga q) else none) i (some g)) = (fun q => if q < i + 1 then some (va_up ga i g q) else none) := by
    funext q
    by_cases hq : q = i
    · subst hq; simp [va_up]
    · by_cases h2 : q < i
      · have h3 : q < i + 1 := by omega
        simp [va_up, hq, h2, h3]
      · have h3 : ¬ q < i + 1 := by omega
        simp [va_up, hq, h2, h3]
  rw [e]
theorem kwp_8 {D : va_G} {cl : List vw_C} {cI cJ cR : ClassId} {d ar nb : Nat} {ga ha oa : Nat → Nat} {lg : Int32} {H : Heap} (hP : va_P D cl (kwp cI cJ cR d ar nb ga ha oa lg 8) H) : va_P D cl (kw cI cJ cR d ar nb ga ha oa lg 0 1000 0 kG0) H := by
  intro k q hk
  match k, hk with
  | 0, hk => exact hP 0 q hk
  | 1, hk =>
    cases hk
    have h1 := hP 1 _ rfl
    show H[ar]? = some (vp_cell cR (8, .inr (.inr (.inr (.inr (fun q => some (ga q)))))))
    rw [show H[ar]? = some (vp_cell cR (8, .inr (.inr (.inr (.inr (fun q => if q < 8 then some (ga q) else none)))))) from h1]
    rw [vp_cell_q, vp_cell_q]
    have e : ∀ j : Fin 8, va_rf (if j.val < 8 then some (ga j.val) else none) = va_rf (some (ga j.val)) := fun j => by rw [if_pos j.isLt]
    simp only [arrV, e]
  | k + 2, hk => exact hP (k + 2) q hk
/-- what the desk's making asks of the tables beside its words -/
def kPreI (D : va_G) (cl : List vw_C) (tys : List (ClassId × FieldType)) (As : List Value) (sz : Nat) (ws : va_W) : Array Value → State → Prop := fun v U => kPre D cl tys As sz ws v U ∧ va_Nw (.methodLinkNest "GroupDesk" 24 y_N_init "GroupDesk") U ∧ va_AO "GroupDesk$Group" U
theorem kPreI_blind {D : va_G} {cl : List vw_C} {tys : List (ClassId × FieldType)} {As : List Value} {sz : Nat} {ws : va_W} : FrameBlind (kPreI D cl tys As sz ws) := fun a U g mk q => ⟨kPre_blind a U g mk q.1, va_Nw.same rfl (show U.vm = (U.calling g mk a).vm from rfl) q.2.1, va_AO.moved (U := U.calling g mk a) (Vm.Alike.refl U.vm) q.2.2⟩
set_option maxHeartbeats 4000000 in
set_option maxRecDepth 100000 in
theorem lp_D_init {p : Program} {l : Launch} {e : Env} {s : State} {m : MethodId} {args : Array Value} {below : List Frame} {meth : Method} {c : Code} {Q : State → Prop} {dC : Nat → ClassId} {dI : Nat → Nat → Nat} {cI cJ cR : ClassId} {d ar nb : Nat} {lg p0 : Int32} {A : Nat → Prop} (hx : p.tables.exec = Jvm.exec) (hb : c.code = b_D_init) (hml : c.maxLocals = 3) (hown : s.vm.findClass R_D = some m.cls) (hw : ∀ w ∈ kb_B, w.before args s = true) (hK : va_K (dC, dI) vwCl (kty cI cJ cR) s) (hA : ∀ q : Nat, s.heap.size ≤ q → A q)
    (kk : ∀ (ga ha oa : Nat → Nat) (H : Heap) (locs : List Loc) (ls : Array Slot), va_P (dC, dI) vwCl (kwp cI cJ cR d ar nb ga ha oa lg 8) H → va_D A (kwp cI cJ cR d ar nb ga ha oa lg 8) → va_S A s.heap H locs → W p l e (headSpec w_D_init ({ frames := 2, cells := 26, slots := 194, locals := 80 })).room s m args below meth c H locs (2 + 3 * 8) (10 + 23 * 8) Q (F0 m 65 ls [])) :
    ∀ (k i : Nat) (ga ha oa : Nat → Nat) (H : Heap) (locs : List Loc) (ls : Array Slot), i + k = 8 → va_P (dC, dI) vwCl (kwp cI cJ cR d ar nb ga ha oa lg i) H → va_D A (kwp cI cJ cR d ar nb ga ha oa lg i) → va_S A s.heap H locs → lv_has ls 3 [(2, .int (nI i)), (0, .ref d), (1, .int p0)] → W p l e (headSpec w_D_init ({ frames := 2, cells := 26, slots := 194, locals := 80 })).room s m args below meth c H locs (2 + 3 * i) (10 + 23 * i) Q (F0 m 40 ls []) := by
  intro k
  induction k with
  | zero =>
    intro i ga ha oa H locs ls hi hP hD hS hl
    have hi8 : i = 8 := by omega
    subst hi8
    refine lv_iload_n hx hb d_D_init_40 rfl (lv_at hl 0 rfl) ?_
    refine lv_bipush (v := 8) hx hb d_D_init_41 (by decide) ?_
    refine lv_icmp_ge (tgt := 65) hx hb d_D_init_43 (by decide) (fun c_1 => ?_) (fun c_1 => ?_)
    · exact kk ga ha oa H locs ls hP hD hS
    · exact absurd (nI_le (Nat.le_refl 8) (by decide)) c_1
  | succ k ih =>
    intro i ga ha oa H locs ls hi hP hD hS hl
    refine lv_iload_n hx hb d_D_init_40 rfl (lv_at hl 0 rfl) ?_
    refine lv_bipush (v := 8) hx hb d_D_init_41 (by decide) ?_
    refine lv_icmp_ge (tgt := 65) hx hb d_D_init_43 (by decide) (fun c_1 => ?_) (fun c_1 => ?_)
    · exact absurd c_1 (nI_ge (a := i) (b := 8) (by omega) (by decide))
    · refine lv_aload_n hx hb d_D_init_46 rfl (lv_at hl 1 rfl) ?_
      refine va_get (D := (dC, dI)) (ci := 0) (v := .ref ar) (C := R_D) (T := F_D) (N := 4) hx hb hw i_D hown hK hP 0 rfl rfl 1 (by decide) (hw _ kb_83) (fun _ h9 => h9) rfl d_D_init_47 ?_
      refine lv_iload_n hx hb d_D_init_50 rfl (lv_at hl 0 rfl) ?_
      refine va_new (ci := 2) (fs := [.int 0, .int 0, .int 0, .int 0, .int 0, .null, .null]) (C := R_G) (T := F_G) (N := 7) hx hb hw i_G t_G t_G_ok hown (hw _ kb_41) (hw _ kb_43) (hw _ kb_4) hK hP hD hS hA rfl (fun j hj => by rcases (show j = 0 ∨ j = 1 ∨ j = 2 ∨ j = 3 ∨ j = 4 ∨ j = 5 ∨ j = 6 by omega) with rfl | rfl | rfl | rfl | rfl | rfl | rfl <;> rfl) (by show 2 + 3 * i + 1 ≤ 26; omega) (by show 10 + 23 * i + 7 ≤ 194; omega) d_D_init_51 (fun g H hP hD hS => ?_)
      have hS0 := hS
      refine lv_dup hx hb d_D_init_54 rfl ?_
      have hPa := kl_L hP
      have hPq := kl_R hP
      have hlt := kl_lt hP
      refine kc_v (σ := Nat × Nat) (Wd := fun u => [(g, .inr (2, [.int 0, .int 0, .int 0, .int 0, .int 0, .ref u.1, .ref u.2])), (u.1, .inl (cI, 8, .inl (fun _ => 0))), (u.2, .inl (cJ, 8, .inr (.inl (fun _ => -1))))]) (L := [g]) (va_runI (As := []) (rest := [.ref g, .int (nI i), .ref ar]) ⟨hx, hb, hml, hown, hw⟩ (c_G_init l g _) (cwI 0 hw (kb_self kb_46) rfl rfl rfl (hw _ kb_4) (hw _ kb_44) (hw _ kb_45) rfl (by decide +kernel) ⟨Nat.le_of_ble_eq_true rfl, Nat.le_of_ble_eq_true rfl⟩) (kPS hPq hK) rfl rfl hl.1 rfl (lv_room (Nat.le_of_ble_eq_true rfl)) d_D_init_55 ⟨by show 2 + 3 * i + 1 + 2 ≤ 26; omega, by show 10 + 23 * i + 7 + 16 ≤ 194; omega⟩) hS hA (fun q h => by rw [List.mem_singleton.mp h]; exact hD.2 _ _ (by rw [List.getElem?_append_right (Nat.le_refl _), Nat.sub_self]; rfl)) (fun u H1 locs hw2 hP1 hz ho hS => ?_)
      obtain ⟨h, o⟩ := u
      obtain ⟨hh, hoo, hne⟩ := hw2
      dsimp only at hh hoo hne hP1
      have hga : g ∉ (kwp cI cJ cR d ar nb ga ha oa lg i).map Prod.fst := fun z => by
        have h1 := kl_nd hD
        rw [List.map_append, List.nodup_append] at h1
        exact h1.2.2 g z g (by simp) rfl
      have hPa := kl_keep hPa (L := [g]) (fun q hq z => hga (by rw [List.mem_singleton.mp z] at hq; exact hq)) ho
      have hP : va_P (dC, dI) vwCl (kwp cI cJ cR d ar nb ga ha oa lg i ++ [(g, .inr (2, [.int 0, .int 0, .int 0, .int 0, .int 0, .ref h, .ref o])), (h, .inl (cI, 8, .inl (fun _ => 0))), (o, .inl (cJ, 8, .inr (.inl (fun _ => -1))))]) H1 := va_P.app hPa hP1
      have hD : va_D A (kwp cI cJ cR d ar nb ga ha oa lg i ++ [(g, .inr (2, [.int 0, .int 0, .int 0, .int 0, .int 0, .ref h, .ref o])), (h, .inl (cI, 8, .inl (fun _ => 0))), (o, .inl (cJ, 8, .inr (.inl (fun _ => -1))))]) := by
        have h1 := kl_new (w := [(h, (.inl (cI, 8, .inl (fun _ => 0)) : va_E)), (o, .inl (cJ, 8, .inr (.inl (fun _ => -1))))]) hD hlt (by simpa using hne) (fun q hq => by
          simp only [List.map_cons, List.map_nil, List.mem_cons, List.not_mem_nil, or_false] at hq
          rcases hq with rfl | rfl
          · exact ⟨hh, hA _ (Nat.le_trans (Nat.le_trans hS0.1 (Nat.le_refl _)) hh)⟩
          · exact ⟨hoo, hA _ (Nat.le_trans (Nat.le_trans hS0.1 (Nat.le_refl _)) hoo)⟩)
        rw [List.append_assoc] at h1
        refine kl_D ?_ ?_
        · have h2 := kl_nd h1; simpa using h2
        · intro q hq
          have h2 : q ∈ (kwp cI cJ cR d ar nb ga ha oa lg i ++ ([(g, (.inr (2, [.int 0, .int 0, .int 0, .int 0, .int 0, .null, .null]) : va_E))] ++ [(h, (.inl (cI, 8, .inl (fun _ => 0)) : va_E)), (o, .inl (cJ, 8, .inr (.inl (fun _ => -1))))])).map Prod.fst := by simpa using hq
          obtain ⟨x, hx1, rfl⟩ := List.mem_map.mp h2
          obtain ⟨k1, hk1⟩ := List.getElem?_of_mem hx1
          exact h1.2 k1 x hk1
      refine va_astq hx hb hK hP hD hS 1 2 (3 * i + 3) 2 (r := (R_G, F_G, 7)) rfl rfl (by rw [List.getElem?_append_right (by rw [kwp_len]; exact Nat.le_refl _), kwp_len, Nat.sub_self]; rfl) rfl (vp_in_nI (by omega) (by decide)) d_D_init_58 (fun H locs hP hD hS => ?_)
      rw [nI_clamp (by omega), kwp_succ] at hP hD
      refine lv_iinc (v := nI i + 1) (lv' := [(2, .int (nI i + 1)), (0, .ref d), (1, .int p0)]) hx hb d_D_init_59 hl (k := 0) rfl rfl (by decide) rfl (fun ls hl => ?_)
      refine lv_goto (tgt := 40) hx hb d_D_init_62 (by decide) ?_
      refine W.cs (cells' := 2 + 3 * (i + 1)) (slots' := 10 + 23 * (i + 1)) (by omega) (by omega) ?_
      exact ih (i + 1) _ _ _ H locs ls (by omega) hP hD hS (by rw [nI_succ]; exact hl)
set_option maxHeartbeats 4000000 in
set_option maxRecDepth 100000 in
theorem c_D_init (l : Launch) {dC : Nat → ClassId} {dI : Nat → Nat → Nat} {cI cJ cR : ClassId} (d : Nat) (p0 : Int32) (sz : Nat) : Met l y_D_init w_D_init ({ frames := 2, cells := 26, slots := 194, locals := 80 }) (kPreI (dC, dI) vwCl (kty cI cJ cR) [.ref d, .int p0] sz [(d, .inr (0, [.int 0, .null, .null, .int 0]))]) (va_Qv (fun u : Nat × Nat × (Nat → Nat) × (Nat → Nat) × (Nat → Nat) => (kad d u.1 u.2.1 u.2.2.1 u.2.2.2.1 u.2.2.2.2).Nodup ∧ ∀ q ∈ (kad d u.1 u.2.1 u.2.2.1 u.2.2.2.1 u.2.2.2.2), q = d ∨ sz ≤ q) (fun u t => va_P (dC, dI) vwCl (kw cI cJ cR d u.1 u.2.1 u.2.2.1 u.2.2.2.1 u.2.2.2.2 (k_lg p0) 0 1000 0 kG0) t.heap) (kA [d] sz)) 26 194 (kA [d] sz) := by
  refine Met.ofW (cc := b_D_init) (maxL := 3) (ret := none) (by decide) rfl ?_
  intro p e s m args below meth c s₁ B hml hv
  obtain ⟨⟨rfl, hsz, hP, hK⟩, hNl, hAO⟩ := hv
  have hx := B.exec
  have hb := B.bytes
  have hr := B.returns
  have hts := atoms_spec (ws := w_D_init) B.pre
  have hw := fun (w : Cond) (h : w ∈ kb_B) => hts w (List.mem_cons_of_mem _ h)
  have hown : s.vm.findClass R_D = some m.cls := findClass_of_methodNamed B.named
  have hlocks := B.notSynchronized
  have hin : meth.name = "<init>" := (name_of_methodNamed B.named B.method).1
  subst hsz
  generalize hAe : kA [d] s.heap.size = A
  have hA : ∀ q : Nat, s.heap.size ≤ q → A q := fun q h => by rw [← hAe]; exact Or.inr h
  have hAL : ∀ z ∈ [d], A z := fun z h => by rw [← hAe]; exact Or.inl h
  have hS : va_S A s.heap s.heap [] := va_S.rf
  have hl := lv_entry ([.ref d, .int p0]) (n := 3) (Nat.le_of_ble_eq_true rfl)
  rw [lg_entry_eq]
  generalize (lg_sl ([.ref d, .int p0]) ++ List.replicate (3 - (lg_sl ([.ref d, .int p0])).length) Slot.unset).toArray = ls at hl ⊢
  have hl : lv_has ls 3 [(0, .ref d), (1, .int p0)] := hl
  have hD : va_D A [(d, .inr (0, [.int 0, .null, .null, .int 0]))] := kl_D (by simp) (fun z h => hAL z h)
  refine lv_aload_n hx hb d_D_init_0 rfl (lv_at hl 0 rfl) ?_
  refine W.objInit hx hb hown (hw _ kb_17) (hw _ kb_18) (hw _ kb_19) rfl (by rw [hml]; exact hl.1) rfl d_D_init_1 (Nat.le_of_ble_eq_true rfl) (Nat.le_of_ble_eq_true rfl) ?_
  refine W.eq (g2 := F0 m 4 ls []) rfl ?_
  refine lv_aload_n hx hb d_D_init_4 rfl (lv_at hl 0 rfl) ?_
  refine lv_iload_n hx hb d_D_init_5 rfl (lv_at hl 1 rfl) ?_
  refine lv_iconst (v := 1) hx hb d_D_init_6 (by decide) ?_
  refine va_mmax hx hb (hml.trans hl.1.symm) hown (hw _ kb_20) (hw _ kb_21) (hw _ kb_2) (hw _ kb_22) (Nat.le_of_ble_eq_true rfl) (Nat.le_of_ble_eq_true rfl) (Nat.le_of_ble_eq_true rfl) (Nat.le_of_ble_eq_true rfl) d_D_init_7 ?_
  refine lv_bipush (v := 8) hx hb d_D_init_10 (by decide) ?_
  refine va_mmin hx hb (hml.trans hl.1.symm) hown (hw _ kb_23) (hw _ kb_24) (hw _ kb_2) (hw _ kb_25) (Nat.le_of_ble_eq_true rfl) (Nat.le_of_ble_eq_true rfl) (Nat.le_of_ble_eq_true rfl) (Nat.le_of_ble_eq_true rfl) d_D_init_12 ?_
  refine va_putF (D := (dC, dI)) (ci := 0) (v := .int (k_lg p0)) (ty := .int) (C := R_D) (T := F_D) (N := 4) hx hb hw i_D t_D t_D_ok n_D hown hK hP hD hS 0 rfl rfl 0 (by decide) (hw _ kb_82) (fun _ h9 => h9) rfl hin rfl (by decide +kernel) rfl rfl (Nat.le_of_ble_eq_true rfl) d_D_init_15 (fun H locs hP hD hS => ?_)
  have hP : va_P (dC, dI) vwCl [(d, .inr (0, [.int (k_lg p0), .null, .null, .int 0]))] H := hP
  have hD : va_D A [(d, .inr (0, [.int (k_lg p0), .null, .null, .int 0]))] := hD
  refine lv_aload_n hx hb d_D_init_18 rfl (lv_at hl 0 rfl) ?_
  refine va_new (ci := 1) (fs := [.int 0, .int 0]) (C := R_N) (T := F_N) (N := 2) hx hb hw i_N t_N t_N_ok hown (hw _ kb_26) (hw _ kb_27) (hw _ kb_3) hK hP hD hS hA rfl (fun j hj => by rcases (show j = 0 ∨ j = 1 by omega) with rfl | rfl <;> rfl) (Nat.le_of_ble_eq_true rfl) (Nat.le_of_ble_eq_true rfl) d_D_init_19 (fun nb H hP hD hS => ?_)
  have hP : va_P (dC, dI) vwCl [(d, .inr (0, [.int (k_lg p0), .null, .null, .int 0])), (nb, .inr (1, [.int 0, .int 0]))] H := hP
  have hD : va_D A [(d, .inr (0, [.int (k_lg p0), .null, .null, .int 0])), (nb, .inr (1, [.int 0, .int 0]))] := hD
  refine lv_dup hx hb d_D_init_22 rfl ?_
  have hP1 := hP.sub (ws' := [(nb, .inr (1, [.int 0, .int 0]))]) [1] rfl
  refine kc_v (σ := Unit) (Wd := fun _ => [(nb, .inr (1, [.int 1000, .int 0]))]) (L := [nb]) (va_runIN (As := []) (rest := [.ref nb, .ref d]) ⟨hx, hb, hml, hown, hw⟩ (c_N_init l nb 0 0 _) ⟨va_cnB (host := "GroupDesk") 0 hw (kb_self kb_30) rfl rfl rfl hNl (hw _ kb_3) (by decide +kernel) ⟨Nat.le_of_ble_eq_true rfl, Nat.le_of_ble_eq_true rfl⟩, rfl, hw _ kb_29⟩ (kPS hP1 hK) rfl rfl hl.1 rfl (lv_room (Nat.le_of_ble_eq_true rfl)) d_D_init_23 ⟨Nat.le_of_ble_eq_true rfl, Nat.le_of_ble_eq_true rfl⟩) hS hA (fun q h => by rw [List.mem_singleton.mp h]; exact hD.2 1 _ rfl) (fun u H locs _ hP1 _ ho hS => ?_)
  have hP := kl_oneD hP hD (k := 1) rfl hP1 ho
  have hP : va_P (dC, dI) vwCl [(d, .inr (0, [.int (k_lg p0), .null, .null, .int 0])), (nb, .inr (1, [.int 1000, .int 0]))] H := hP
  have hD : va_D A [(d, .inr (0, [.int (k_lg p0), .null, .null, .int 0])), (nb, .inr (1, [.int 1000, .int 0]))] := hD.set (p := 1) (e := .inr (1, [.int 1000, .int 0])) rfl
  refine va_putF (D := (dC, dI)) (ci := 0) (v := .ref nb) (ty := .object "GroupDesk$Notebook") (C := R_D) (T := F_D) (N := 4) hx hb hw i_D t_D t_D_ok n_D hown hK hP hD hS 0 rfl rfl 2 (by decide) (hw _ kb_84) (fun _ h9 => h9) rfl hin rfl (by decide +kernel) rfl rfl (Nat.le_of_ble_eq_true rfl) d_D_init_26 (fun H locs hP hD hS => ?_)
  have hP : va_P (dC, dI) vwCl [(d, .inr (0, [.int (k_lg p0), .null, .ref nb, .int 0])), (nb, .inr (1, [.int 1000, .int 0]))] H := hP
  have hD : va_D A [(d, .inr (0, [.int (k_lg p0), .null, .ref nb, .int 0])), (nb, .inr (1, [.int 1000, .int 0]))] := hD
  refine lv_aload_n hx hb d_D_init_29 rfl (lv_at hl 0 rfl) ?_
  refine lv_bipush (v := 8) hx hb d_D_init_30 (by decide) ?_
  refine va_newq hx hb hown (hw _ kb_41) hAO hK hP hD hS hA (by decide) rfl (by decide) (Nat.le_of_ble_eq_true rfl) (Nat.le_of_ble_eq_true rfl) d_D_init_32 (fun ar cA H hK2 hP hD hS => ?_)
  obtain rfl : cR = cA := by
    obtain ⟨_, _, _, _, _, e1⟩ := (hK2.2 2 _ rfl).2
    obtain ⟨_, _, _, _, _, e2⟩ := (hK2.2 3 _ rfl).2
    exact Option.some.inj (e1.symm.trans e2)
  refine va_putF (D := (dC, dI)) (ci := 0) (v := .ref ar) (ty := .array (.object "GroupDesk$Group")) (C := R_D) (T := F_D) (N := 4) hx hb hw i_D t_D t_D_ok n_D hown hK hP hD hS 0 rfl rfl 1 (by decide) (hw _ kb_83) (fun _ h9 => h9) rfl hin rfl (by decide +kernel) rfl rfl (Nat.le_of_ble_eq_true rfl) d_D_init_35 (fun H locs hP hD hS => ?_)
  have hP : va_P (dC, dI) vwCl (kwp cI cJ cR d ar nb (fun _ => 0) (fun _ => 0) (fun _ => 0) (k_lg p0) 0) H := hP.sub [0, 2, 1] (by simp [kwp, kw_n])
  have hD : va_D A (kwp cI cJ cR d ar nb (fun _ => 0) (fun _ => 0) (fun _ => 0) (k_lg p0) 0) := hD.sub [0, 2, 1] (by decide) (by simp [kwp, kw_n])
  refine lv_iconst (v := 0) hx hb d_D_init_38 (by decide) ?_
  refine lv_istore_n (lv' := [(2, .int 0), (0, .ref d), (1, .int p0)]) hx hb d_D_init_39 rfl hl (by decide) rfl (fun ls hl => ?_)
  refine lp_D_init hx hb hml hown hw hK hA (fun ga ha oa H locs ls hP hD hS => ?_) 8 0 _ _ _ _ _ ls rfl hP hD hS hl
  have hnd : (kad d ar nb ga ha oa).Nodup := by
    have h1 := kl_nd hD
    have e1 : (kwp cI cJ cR d ar nb ga ha oa (k_lg p0) 8).map Prod.fst = kad d ar nb ga ha oa := by simp [kwp, kad, kw_n, List.map_map, Function.comp_def]
    rw [e1] at h1
    exact h1
  have hne : ∀ q ∈ kad d ar nb ga ha oa, q = d ∨ s.heap.size ≤ q := by
    intro q hq
    have e1 : (kwp cI cJ cR d ar nb ga ha oa (k_lg p0) 8).map Prod.fst = kad d ar nb ga ha oa := by simp [kwp, kad, kw_n, List.map_map, Function.comp_def]
    rw [← e1] at hq
    obtain ⟨x, hx1, rfl⟩ := List.mem_map.mp hq
    obtain ⟨k1, hk1⟩ := List.getElem?_of_mem hx1
    have h2 := hD.2 k1 x hk1
    rw [← hAe] at h2
    exact h2.imp (fun z => List.mem_singleton.mp z) id
  have hP := kwp_8 hP
  exact W.vret hx hb hr (fun t ht hW => ⟨⟨(ar, nb, ga, ha, oa), rfl, ⟨hnd, hne⟩, by show va_P _ _ _ t.heap; rw [ht]; exact hP⟩, hS.F ht⟩) hS.2.2 d_D_init_65
end
section
/-! the reference's world: the object and its seven arrays -/
/-- state, generation, limit, member, joined, heard, offset -/
abbrev mGV : Type := Int32 × Int32 × Int32 × (Nat → Int32) × (Nat → Int32) × (Nat → Int32) × (Nat → Int64)
/-- code, logs, time, room, notes, groups -/
abbrev mDV : Type := Int32 × Int32 × Int32 × Int32 × Int32 × (Nat → mGV)
abbrev mty (cI cJ cZ : ClassId) : List (ClassId × FieldType) := [(cI, .int), (cJ, .long), (cZ, .boolean)]
def mp0 (y : mGV) : Int32 := y.1
def mp1 (y : mGV) : Int32 := y.2.1
def mp2 (y : mGV) : Int32 := y.2.2.1
def mp3 (y : mGV) : Nat → Int32 := y.2.2.2.1
def mp4 (y : mGV) : Nat → Int32 := y.2.2.2.2.1
def mp5 (y : mGV) : Nat → Int32 := y.2.2.2.2.2.1
def mp6 (y : mGV) : Nat → Int64 := y.2.2.2.2.2.2
def mf8 (f : mGV → Int32) (M : Nat → mGV) : Nat → Int32 := fun q => f (M q)
def mf64 {α : Type} (f : mGV → Nat → α) (M : Nat → mGV) : Nat → α := fun q => f (M (q / 8)) (q % 8)
def mw (cI cJ cZ : ClassId) (a : Nat → Nat) (co lg tm rm no : Int32) (M : Nat → mGV) : va_W :=
  [(a 0, .inr (3, [.int co, .int lg, .int tm, .int rm, .int no, .ref (a 1), .ref (a 2), .ref (a 3), .ref (a 4), .ref (a 5), .ref (a 6), .ref (a 7)])),
   (a 1, .inl (cI, 8, .inl (mf8 mp0 M))), (a 2, .inl (cI, 8, .inl (mf8 mp1 M))), (a 3, .inl (cI, 8, .inl (mf8 mp2 M))),
   (a 4, .inl (cZ, 64, .inl (mf64 mp3 M))), (a 5, .inl (cZ, 64, .inl (mf64 mp4 M))), (a 6, .inl (cI, 64, .inl (mf64 mp5 M))), (a 7, .inl (cJ, 64, .inr (.inl (mf64 mp6 M))))]
abbrev mwv (cI cJ cZ : ClassId) (a : Nat → Nat) (v : mDV) : va_W := mw cI cJ cZ a v.1 v.2.1 v.2.2.1 v.2.2.2.1 v.2.2.2.2.1 v.2.2.2.2.2
def mad (a : Nat → Nat) : List Nat := [a 0, a 1, a 2, a 3, a 4, a 5, a 6, a 7]
theorem mv_at (M : Nat → mGV) (g : Nat) : va_up M g (M g) = M := by
  funext q
  by_cases h : q = g
  · subst h; simp [va_up]
  · simp [va_up, h]
section MWA
variable {p : Program} {l : Launch} {e : Env} {R : Room} {s : State} {m : MethodId} {args : Array Value} {below : List Frame} {meth : Method} {c : Code} {H H0 : Heap} {locs : List Loc} {cells slots : Nat} {Q : State → Prop} {cc : ByteArray}
variable {D : va_G} {cl : List vw_C} {A : Nat → Prop} {pc : Nat} {ls : Array Slot} {rest : List Value} {cI cJ cZ : ClassId} {a : Nat → Nat} {co lg tm rm no : Int32} {M : Nat → mGV} {g i : Nat} {x0 x1 x2 : Int32} {x3 x4 x5 : Nat → Int32} {x6 : Nat → Int64}
theorem mw_ad : (mw cI cJ cZ a co lg tm rm no M).map Prod.fst = mad a := rfl
theorem mw_D (hnd : (mad a).Nodup) (hAL : ∀ q ∈ mad a, A q) : va_D A (mw cI cJ cZ a co lg tm rm no M) := kl_D hnd hAL
theorem mf8_same {f : mGV → Int32} {y y' : mGV} (h : f y = f y') : mf8 f (va_up M g y) = mf8 f (va_up M g y') := by
  funext q
  by_cases h1 : q = g
  · subst h1; simp [mf8, va_up, h]
  · simp [mf8, va_up, h1]
theorem mf8_set {f : mGV → Int32} {y y' : mGV} {v : Int32} (h : f y' = v) : upd (mf8 f (va_up M g y)) g v = mf8 f (va_up M g y') := by
  funext q
  by_cases h1 : q = g
  · subst h1; simp [mf8, va_up, upd, h]
  · simp [mf8, va_up, upd, h1]
theorem mf64_same {α : Type} {f : mGV → Nat → α} {y y' : mGV} (h : f y = f y') : mf64 f (va_up M g y) = mf64 f (va_up M g y') := by
  funext q
  by_cases h1 : q / 8 = g
  · simp [mf64, va_up, h1, h]
  · simp [mf64, va_up, h1]
theorem mf64_set {f : mGV → Nat → Int32} {y y' : mGV} {v : Int32} (hi : i < 8) (h : f y' = upd (f y) i v) : upd (mf64 f (va_up M g y)) (8 * g + i) v = mf64 f (va_up M g y') := by
  funext q
  by_cases h1 : q / 8 = g
  · by_cases h2 : q % 8 = i
    · have h3 : q = 8 * g + i := by omega
      simp [mf64, va_up, upd, h1, h, h2, ← h3]
    · have h3 : ¬ q = 8 * g + i := by omega
      simp [mf64, va_up, upd, h1, h, h2, h3]
  · have h3 : ¬ q = 8 * g + i := by omega
    simp [mf64, va_up, upd, h1, h3]
theorem mf64_setL {f : mGV → Nat → Int64} {y y' : mGV} {v : Int64} (hi : i < 8) (h : f y' = vp_updL (f y) i v) : vp_updL (mf64 f (va_up M g y)) (8 * g + i) v = mf64 f (va_up M g y') := by
  funext q
  by_cases h1 : q / 8 = g
  · by_cases h2 : q % 8 = i
    · have h3 : q = 8 * g + i := by omega
      simp [mf64, va_up, vp_updL, h1, h, h2, ← h3]
    · have h3 : ¬ q = 8 * g + i := by omega
      simp [mf64, va_up, vp_updL, h1, h, h2, h3]
  · have h3 : ¬ q = 8 * g + i := by omega
    simp [mf64, va_up, vp_updL, h1, h3]
theorem mf8_at {f : mGV → Int32} {y : mGV} : mf8 f (va_up M g y) g = f y := by simp [mf8, va_up]
theorem mf64_at {α : Type} {f : mGV → Nat → α} {y : mGV} (hi : i < 8) : mf64 f (va_up M g y) (8 * g + i) = f y i := by
  have h1 : (8 * g + i) / 8 = g := by omega
  have h2 : (8 * g + i) % 8 = i := by omega
  simp [mf64, va_up, h1, h2]
theorem mi_nI (hg : g < 8) (hi : i < 8) : (8 : Int32) * nI g + nI i = nI (8 * g + i) := by
  rw [show (8 : Int32) = nI 8 from rfl, show nI 8 * nI g = nI (8 * g) from (Int32.ofNat_mul 8 g).symm, nI_add]
theorem ml_st (hx : p.tables.exec = Jvm.exec) (hb : c.code = cc) (hK : va_K D cl (mty cI cJ cZ) s) (hP : va_P D cl (mw cI cJ cZ a co lg tm rm no (va_up M g (x0, x1, x2, x3, x4, x5, x6))) H) (hg : g < 8) (hd : decode cc pc = .ok (.iaload, 1)) (kk : W p l e R s m args below meth c H locs cells slots Q (F0 m (pc + 1) ls (.int (x0) :: rest))) : W p l e R s m args below meth c H locs cells slots Q (F0 m pc ls (.int (nI g) :: .ref (a 1) :: rest)) := by
  refine va_iald hx hb hK hP 1 0 rfl rfl (vp_in_nI (by omega) (by decide)) hd ?_
  rw [nI_clamp (by omega), mf8_at]
  exact kk
theorem ms_st {v : Int32} (hx : p.tables.exec = Jvm.exec) (hb : c.code = cc) (hK : va_K D cl (mty cI cJ cZ) s) (hP : va_P D cl (mw cI cJ cZ a co lg tm rm no (va_up M g (x0, x1, x2, x3, x4, x5, x6))) H) (hnd : (mad a).Nodup) (hAL : ∀ q ∈ mad a, A q) (hS : va_S A H0 H locs) (hg : g < 8) (hd : decode cc pc = .ok (.iastore, 1)) (kk : ∀ (H1 : Heap) (locs1 : List Loc), va_P D cl (mw cI cJ cZ a co lg tm rm no (va_up M g (v, x1, x2, x3, x4, x5, x6))) H1 → va_S A H0 H1 locs1 → W p l e R s m args below meth c H1 locs1 cells slots Q (F0 m (pc + 1) ls (rest))) : W p l e R s m args below meth c H locs cells slots Q (F0 m pc ls (.int v :: .int (nI g) :: .ref (a 1) :: rest)) := by
  refine va_iast hx hb hK hP (mw_D hnd hAL) hS 1 0 rfl rfl (vp_in_nI (by omega) (by decide)) hd (fun H1 locs1 hP1 _ hS1 => kk H1 locs1 ?_ hS1)
  rw [nI_clamp (by omega)] at hP1
  have hP1 : va_P D cl [(a 0, .inr (3, [.int co, .int lg, .int tm, .int rm, .int no, .ref (a 1), .ref (a 2), .ref (a 3), .ref (a 4), .ref (a 5), .ref (a 6), .ref (a 7)])), (a 1, .inl (cI, 8, .inl (upd (mf8 mp0 (va_up M g (x0, x1, x2, x3, x4, x5, x6))) (g) (v)))), (a 2, .inl (cI, 8, .inl (mf8 mp1 (va_up M g (x0, x1, x2, x3, x4, x5, x6))))), (a 3, .inl (cI, 8, .inl (mf8 mp2 (va_up M g (x0, x1, x2, x3, x4, x5, x6))))), (a 4, .inl (cZ, 64, .inl (mf64 mp3 (va_up M g (x0, x1, x2, x3, x4, x5, x6))))), (a 5, .inl (cZ, 64, .inl (mf64 mp4 (va_up M g (x0, x1, x2, x3, x4, x5, x6))))), (a 6, .inl (cI, 64, .inl (mf64 mp5 (va_up M g (x0, x1, x2, x3, x4, x5, x6))))), (a 7, .inl (cJ, 64, .inr (.inl (mf64 mp6 (va_up M g (x0, x1, x2, x3, x4, x5, x6))))))] H1 := hP1
  rw [mf8_set (f := mp0) (y' := (v, x1, x2, x3, x4, x5, x6)) (v := v) rfl, mf8_same (f := mp1) (y := (x0, x1, x2, x3, x4, x5, x6)) (y' := (v, x1, x2, x3, x4, x5, x6)) rfl, mf8_same (f := mp2) (y := (x0, x1, x2, x3, x4, x5, x6)) (y' := (v, x1, x2, x3, x4, x5, x6)) rfl, mf64_same (f := mp3) (y := (x0, x1, x2, x3, x4, x5, x6)) (y' := (v, x1, x2, x3, x4, x5, x6)) rfl, mf64_same (f := mp4) (y := (x0, x1, x2, x3, x4, x5, x6)) (y' := (v, x1, x2, x3, x4, x5, x6)) rfl, mf64_same (f := mp5) (y := (x0, x1, x2, x3, x4, x5, x6)) (y' := (v, x1, x2, x3, x4, x5, x6)) rfl, mf64_same (f := mp6) (y := (x0, x1, x2, x3, x4, x5, x6)) (y' := (v, x1, x2, x3, x4, x5, x6)) rfl] at hP1
  exact hP1
theorem ml_ge (hx : p.tables.exec = Jvm.exec) (hb : c.code = cc) (hK : va_K D cl (mty cI cJ cZ) s) (hP : va_P D cl (mw cI cJ cZ a co lg tm rm no (va_up M g (x0, x1, x2, x3, x4, x5, x6))) H) (hg : g < 8) (hd : decode cc pc = .ok (.iaload, 1)) (kk : W p l e R s m args below meth c H locs cells slots Q (F0 m (pc + 1) ls (.int (x1) :: rest))) : W p l e R s m args below meth c H locs cells slots Q (F0 m pc ls (.int (nI g) :: .ref (a 2) :: rest)) := by
  refine va_iald hx hb hK hP 2 0 rfl rfl (vp_in_nI (by omega) (by decide)) hd ?_
  rw [nI_clamp (by omega), mf8_at]
  exact kk
theorem ms_ge {v : Int32} (hx : p.tables.exec = Jvm.exec) (hb : c.code = cc) (hK : va_K D cl (mty cI cJ cZ) s) (hP : va_P D cl (mw cI cJ cZ a co lg tm rm no (va_up M g (x0, x1, x2, x3, x4, x5, x6))) H) (hnd : (mad a).Nodup) (hAL : ∀ q ∈ mad a, A q) (hS : va_S A H0 H locs) (hg : g < 8) (hd : decode cc pc = .ok (.iastore, 1)) (kk : ∀ (H1 : Heap) (locs1 : List Loc), va_P D cl (mw cI cJ cZ a co lg tm rm no (va_up M g (x0, v, x2, x3, x4, x5, x6))) H1 → va_S A H0 H1 locs1 → W p l e R s m args below meth c H1 locs1 cells slots Q (F0 m (pc + 1) ls (rest))) : W p l e R s m args below meth c H locs cells slots Q (F0 m pc ls (.int v :: .int (nI g) :: .ref (a 2) :: rest)) := by
  refine va_iast hx hb hK hP (mw_D hnd hAL) hS 2 0 rfl rfl (vp_in_nI (by omega) (by decide)) hd (fun H1 locs1 hP1 _ hS1 => kk H1 locs1 ?_ hS1)
  rw [nI_clamp (by omega)] at hP1
  have hP1 : va_P D cl [(a 0, .inr (3, [.int co, .int lg, .int tm, .int rm, .int no, .ref (a 1), .ref (a 2), .ref (a 3), .ref (a 4), .ref (a 5), .ref (a 6), .ref (a 7)])), (a 1, .inl (cI, 8, .inl (mf8 mp0 (va_up M g (x0, x1, x2, x3, x4, x5, x6))))), (a 2, .inl (cI, 8, .inl (upd (mf8 mp1 (va_up M g (x0, x1, x2, x3, x4, x5, x6))) (g) (v)))), (a 3, .inl (cI, 8, .inl (mf8 mp2 (va_up M g (x0, x1, x2, x3, x4, x5, x6))))), (a 4, .inl (cZ, 64, .inl (mf64 mp3 (va_up M g (x0, x1, x2, x3, x4, x5, x6))))), (a 5, .inl (cZ, 64, .inl (mf64 mp4 (va_up M g (x0, x1, x2, x3, x4, x5, x6))))), (a 6, .inl (cI, 64, .inl (mf64 mp5 (va_up M g (x0, x1, x2, x3, x4, x5, x6))))), (a 7, .inl (cJ, 64, .inr (.inl (mf64 mp6 (va_up M g (x0, x1, x2, x3, x4, x5, x6))))))] H1 := hP1
  rw [mf8_same (f := mp0) (y := (x0, x1, x2, x3, x4, x5, x6)) (y' := (x0, v, x2, x3, x4, x5, x6)) rfl, mf8_set (f := mp1) (y' := (x0, v, x2, x3, x4, x5, x6)) (v := v) rfl, mf8_same (f := mp2) (y := (x0, x1, x2, x3, x4, x5, x6)) (y' := (x0, v, x2, x3, x4, x5, x6)) rfl, mf64_same (f := mp3) (y := (x0, x1, x2, x3, x4, x5, x6)) (y' := (x0, v, x2, x3, x4, x5, x6)) rfl, mf64_same (f := mp4) (y := (x0, x1, x2, x3, x4, x5, x6)) (y' := (x0, v, x2, x3, x4, x5, x6)) rfl, mf64_same (f := mp5) (y := (x0, x1, x2, x3, x4, x5, x6)) (y' := (x0, v, x2, x3, x4, x5, x6)) rfl, mf64_same (f := mp6) (y := (x0, x1, x2, x3, x4, x5, x6)) (y' := (x0, v, x2, x3, x4, x5, x6)) rfl] at hP1
  exact hP1
theorem ml_li (hx : p.tables.exec = Jvm.exec) (hb : c.code = cc) (hK : va_K D cl (mty cI cJ cZ) s) (hP : va_P D cl (mw cI cJ cZ a co lg tm rm no (va_up M g (x0, x1, x2, x3, x4, x5, x6))) H) (hg : g < 8) (hd : decode cc pc = .ok (.iaload, 1)) (kk : W p l e R s m args below meth c H locs cells slots Q (F0 m (pc + 1) ls (.int (x2) :: rest))) : W p l e R s m args below meth c H locs cells slots Q (F0 m pc ls (.int (nI g) :: .ref (a 3) :: rest)) := by
  refine va_iald hx hb hK hP 3 0 rfl rfl (vp_in_nI (by omega) (by decide)) hd ?_
  rw [nI_clamp (by omega), mf8_at]
  exact kk
theorem ms_li {v : Int32} (hx : p.tables.exec = Jvm.exec) (hb : c.code = cc) (hK : va_K D cl (mty cI cJ cZ) s) (hP : va_P D cl (mw cI cJ cZ a co lg tm rm no (va_up M g (x0, x1, x2, x3, x4, x5, x6))) H) (hnd : (mad a).Nodup) (hAL : ∀ q ∈ mad a, A q) (hS : va_S A H0 H locs) (hg : g < 8) (hd : decode cc pc = .ok (.iastore, 1)) (kk : ∀ (H1 : Heap) (locs1 : List Loc), va_P D cl (mw cI cJ cZ a co lg tm rm no (va_up M g (x0, x1, v, x3, x4, x5, x6))) H1 → va_S A H0 H1 locs1 → W p l e R s m args below meth c H1 locs1 cells slots Q (F0 m (pc + 1) ls (rest))) : W p l e R s m args below meth c H locs cells slots Q (F0 m pc ls (.int v :: .int (nI g) :: .ref (a 3) :: rest)) := by
  refine va_iast hx hb hK hP (mw_D hnd hAL) hS 3 0 rfl rfl (vp_in_nI (by omega) (by decide)) hd (fun H1 locs1 hP1 _ hS1 => kk H1 locs1 ?_ hS1)
  rw [nI_clamp (by omega)] at hP1
  have hP1 : va_P D cl [(a 0, .inr (3, [.int co, .int lg, .int tm, .int rm, .int no, .ref (a 1), .ref (a 2), .ref (a 3), .ref (a 4), .ref (a 5), .ref (a 6), .ref (a 7)])), (a 1, .inl (cI, 8, .inl (mf8 mp0 (va_up M g (x0, x1, x2, x3, x4, x5, x6))))), (a 2, .inl (cI, 8, .inl (mf8 mp1 (va_up M g (x0, x1, x2, x3, x4, x5, x6))))), (a 3, .inl (cI, 8, .inl (upd (mf8 mp2 (va_up M g (x0, x1, x2, x3, x4, x5, x6))) (g) (v)))), (a 4, .inl (cZ, 64, .inl (mf64 mp3 (va_up M g (x0, x1, x2, x3, x4, x5, x6))))), (a 5, .inl (cZ, 64, .inl (mf64 mp4 (va_up M g (x0, x1, x2, x3, x4, x5, x6))))), (a 6, .inl (cI, 64, .inl (mf64 mp5 (va_up M g (x0, x1, x2, x3, x4, x5, x6))))), (a 7, .inl (cJ, 64, .inr (.inl (mf64 mp6 (va_up M g (x0, x1, x2, x3, x4, x5, x6))))))] H1 := hP1
  rw [mf8_same (f := mp0) (y := (x0, x1, x2, x3, x4, x5, x6)) (y' := (x0, x1, v, x3, x4, x5, x6)) rfl, mf8_same (f := mp1) (y := (x0, x1, x2, x3, x4, x5, x6)) (y' := (x0, x1, v, x3, x4, x5, x6)) rfl, mf8_set (f := mp2) (y' := (x0, x1, v, x3, x4, x5, x6)) (v := v) rfl, mf64_same (f := mp3) (y := (x0, x1, x2, x3, x4, x5, x6)) (y' := (x0, x1, v, x3, x4, x5, x6)) rfl, mf64_same (f := mp4) (y := (x0, x1, x2, x3, x4, x5, x6)) (y' := (x0, x1, v, x3, x4, x5, x6)) rfl, mf64_same (f := mp5) (y := (x0, x1, x2, x3, x4, x5, x6)) (y' := (x0, x1, v, x3, x4, x5, x6)) rfl, mf64_same (f := mp6) (y := (x0, x1, x2, x3, x4, x5, x6)) (y' := (x0, x1, v, x3, x4, x5, x6)) rfl] at hP1
  exact hP1
theorem ml_me (hx : p.tables.exec = Jvm.exec) (hb : c.code = cc) (hK : va_K D cl (mty cI cJ cZ) s) (hP : va_P D cl (mw cI cJ cZ a co lg tm rm no (va_up M g (x0, x1, x2, x3, x4, x5, x6))) H) (hg : g < 8) (hi : i < 8) (hd : decode cc pc = .ok (.baload, 1)) (kk : W p l e R s m args below meth c H locs cells slots Q (F0 m (pc + 1) ls (.int (x3 i) :: rest))) : W p l e R s m args below meth c H locs cells slots Q (F0 m pc ls (.int (8 * nI g + nI i) :: .ref (a 4) :: rest)) := by
  rw [mi_nI hg hi]
  refine va_zald hx hb hK hP 4 2 rfl rfl (vp_in_nI (by omega) (by decide)) hd ?_
  rw [nI_clamp (by omega), mf64_at hi]
  exact kk
theorem ms_me {v : Int32} (hx : p.tables.exec = Jvm.exec) (hb : c.code = cc) (hK : va_K D cl (mty cI cJ cZ) s) (hP : va_P D cl (mw cI cJ cZ a co lg tm rm no (va_up M g (x0, x1, x2, x3, x4, x5, x6))) H) (hnd : (mad a).Nodup) (hAL : ∀ q ∈ mad a, A q) (hS : va_S A H0 H locs) (hg : g < 8) (hi : i < 8) (hd : decode cc pc = .ok (.bastore, 1)) (kk : ∀ (H1 : Heap) (locs1 : List Loc), va_P D cl (mw cI cJ cZ a co lg tm rm no (va_up M g (x0, x1, x2, upd x3 i (vp_nar .boolean v), x4, x5, x6))) H1 → va_S A H0 H1 locs1 → W p l e R s m args below meth c H1 locs1 cells slots Q (F0 m (pc + 1) ls (rest))) : W p l e R s m args below meth c H locs cells slots Q (F0 m pc ls (.int v :: .int (8 * nI g + nI i) :: .ref (a 4) :: rest)) := by
  rw [mi_nI hg hi]
  refine va_zast hx hb hK hP (mw_D hnd hAL) hS 4 2 rfl rfl (vp_in_nI (by omega) (by decide)) hd (fun H1 locs1 hP1 _ hS1 => kk H1 locs1 ?_ hS1)
  rw [nI_clamp (by omega)] at hP1
  have hP1 : va_P D cl [(a 0, .inr (3, [.int co, .int lg, .int tm, .int rm, .int no, .ref (a 1), .ref (a 2), .ref (a 3), .ref (a 4), .ref (a 5), .ref (a 6), .ref (a 7)])), (a 1, .inl (cI, 8, .inl (mf8 mp0 (va_up M g (x0, x1, x2, x3, x4, x5, x6))))), (a 2, .inl (cI, 8, .inl (mf8 mp1 (va_up M g (x0, x1, x2, x3, x4, x5, x6))))), (a 3, .inl (cI, 8, .inl (mf8 mp2 (va_up M g (x0, x1, x2, x3, x4, x5, x6))))), (a 4, .inl (cZ, 64, .inl (upd (mf64 mp3 (va_up M g (x0, x1, x2, x3, x4, x5, x6))) (8 * g + i) (vp_nar .boolean v)))), (a 5, .inl (cZ, 64, .inl (mf64 mp4 (va_up M g (x0, x1, x2, x3, x4, x5, x6))))), (a 6, .inl (cI, 64, .inl (mf64 mp5 (va_up M g (x0, x1, x2, x3, x4, x5, x6))))), (a 7, .inl (cJ, 64, .inr (.inl (mf64 mp6 (va_up M g (x0, x1, x2, x3, x4, x5, x6))))))] H1 := hP1
  rw [mf8_same (f := mp0) (y := (x0, x1, x2, x3, x4, x5, x6)) (y' := (x0, x1, x2, upd x3 i (vp_nar .boolean v), x4, x5, x6)) rfl, mf8_same (f := mp1) (y := (x0, x1, x2, x3, x4, x5, x6)) (y' := (x0, x1, x2, upd x3 i (vp_nar .boolean v), x4, x5, x6)) rfl, mf8_same (f := mp2) (y := (x0, x1, x2, x3, x4, x5, x6)) (y' := (x0, x1, x2, upd x3 i (vp_nar .boolean v), x4, x5, x6)) rfl, mf64_set (f := mp3) (y' := (x0, x1, x2, upd x3 i (vp_nar .boolean v), x4, x5, x6)) hi rfl, mf64_same (f := mp4) (y := (x0, x1, x2, x3, x4, x5, x6)) (y' := (x0, x1, x2, upd x3 i (vp_nar .boolean v), x4, x5, x6)) rfl, mf64_same (f := mp5) (y := (x0, x1, x2, x3, x4, x5, x6)) (y' := (x0, x1, x2, upd x3 i (vp_nar .boolean v), x4, x5, x6)) rfl, mf64_same (f := mp6) (y := (x0, x1, x2, x3, x4, x5, x6)) (y' := (x0, x1, x2, upd x3 i (vp_nar .boolean v), x4, x5, x6)) rfl] at hP1
  exact hP1
theorem ml_jo (hx : p.tables.exec = Jvm.exec) (hb : c.code = cc) (hK : va_K D cl (mty cI cJ cZ) s) (hP : va_P D cl (mw cI cJ cZ a co lg tm rm no (va_up M g (x0, x1, x2, x3, x4, x5, x6))) H) (hg : g < 8) (hi : i < 8) (hd : decode cc pc = .ok (.baload, 1)) (kk : W p l e R s m args below meth c H locs cells slots Q (F0 m (pc + 1) ls (.int (x4 i) :: rest))) : W p l e R s m args below meth c H locs cells slots Q (F0 m pc ls (.int (8 * nI g + nI i) :: .ref (a 5) :: rest)) := by
  rw [mi_nI hg hi]
  refine va_zald hx hb hK hP 5 2 rfl rfl (vp_in_nI (by omega) (by decide)) hd ?_
  rw [nI_clamp (by omega), mf64_at hi]
  exact kk
theorem ms_jo {v : Int32} (hx : p.tables.exec = Jvm.exec) (hb : c.code = cc) (hK : va_K D cl (mty cI cJ cZ) s) (hP : va_P D cl (mw cI cJ cZ a co lg tm rm no (va_up M g (x0, x1, x2, x3, x4, x5, x6))) H) (hnd : (mad a).Nodup) (hAL : ∀ q ∈ mad a, A q) (hS : va_S A H0 H locs) (hg : g < 8) (hi : i < 8) (hd : decode cc pc = .ok (.bastore, 1)) (kk : ∀ (H1 : Heap) (locs1 : List Loc), va_P D cl (mw cI cJ cZ a co lg tm rm no (va_up M g (x0, x1, x2, x3, upd x4 i (vp_nar .boolean v), x5, x6))) H1 → va_S A H0 H1 locs1 → W p l e R s m args below meth c H1 locs1 cells slots Q (F0 m (pc + 1) ls (rest))) : W p l e R s m args below meth c H locs cells slots Q (F0 m pc ls (.int v :: .int (8 * nI g + nI i) :: .ref (a 5) :: rest)) := by
  rw [mi_nI hg hi]
  refine va_zast hx hb hK hP (mw_D hnd hAL) hS 5 2 rfl rfl (vp_in_nI (by omega) (by decide)) hd (fun H1 locs1 hP1 _ hS1 => kk H1 locs1 ?_ hS1)
  rw [nI_clamp (by omega)] at hP1
  have hP1 : va_P D cl [(a 0, .inr (3, [.int co, .int lg, .int tm, .int rm, .int no, .ref (a 1), .ref (a 2), .ref (a 3), .ref (a 4), .ref (a 5), .ref (a 6), .ref (a 7)])), (a 1, .inl (cI, 8, .inl (mf8 mp0 (va_up M g (x0, x1, x2, x3, x4, x5, x6))))), (a 2, .inl (cI, 8, .inl (mf8 mp1 (va_up M g (x0, x1, x2, x3, x4, x5, x6))))), (a 3, .inl (cI, 8, .inl (mf8 mp2 (va_up M g (x0, x1, x2, x3, x4, x5, x6))))), (a 4, .inl (cZ, 64, .inl (mf64 mp3 (va_up M g (x0, x1, x2, x3, x4, x5, x6))))), (a 5, .inl (cZ, 64, .inl (upd (mf64 mp4 (va_up M g (x0, x1, x2, x3, x4, x5, x6))) (8 * g + i) (vp_nar .boolean v)))), (a 6, .inl (cI, 64, .inl (mf64 mp5 (va_up M g (x0, x1, x2, x3, x4, x5, x6))))), (a 7, .inl (cJ, 64, .inr (.inl (mf64 mp6 (va_up M g (x0, x1, x2, x3, x4, x5, x6))))))] H1 := hP1
  rw [mf8_same (f := mp0) (y := (x0, x1, x2, x3, x4, x5, x6)) (y' := (x0, x1, x2, x3, upd x4 i (vp_nar .boolean v), x5, x6)) rfl, mf8_same (f := mp1) (y := (x0, x1, x2, x3, x4, x5, x6)) (y' := (x0, x1, x2, x3, upd x4 i (vp_nar .boolean v), x5, x6)) rfl, mf8_same (f := mp2) (y := (x0, x1, x2, x3, x4, x5, x6)) (y' := (x0, x1, x2, x3, upd x4 i (vp_nar .boolean v), x5, x6)) rfl, mf64_same (f := mp3) (y := (x0, x1, x2, x3, x4, x5, x6)) (y' := (x0, x1, x2, x3, upd x4 i (vp_nar .boolean v), x5, x6)) rfl, mf64_set (f := mp4) (y' := (x0, x1, x2, x3, upd x4 i (vp_nar .boolean v), x5, x6)) hi rfl, mf64_same (f := mp5) (y := (x0, x1, x2, x3, x4, x5, x6)) (y' := (x0, x1, x2, x3, upd x4 i (vp_nar .boolean v), x5, x6)) rfl, mf64_same (f := mp6) (y := (x0, x1, x2, x3, x4, x5, x6)) (y' := (x0, x1, x2, x3, upd x4 i (vp_nar .boolean v), x5, x6)) rfl] at hP1
  exact hP1
theorem ml_he (hx : p.tables.exec = Jvm.exec) (hb : c.code = cc) (hK : va_K D cl (mty cI cJ cZ) s) (hP : va_P D cl (mw cI cJ cZ a co lg tm rm no (va_up M g (x0, x1, x2, x3, x4, x5, x6))) H) (hg : g < 8) (hi : i < 8) (hd : decode cc pc = .ok (.iaload, 1)) (kk : W p l e R s m args below meth c H locs cells slots Q (F0 m (pc + 1) ls (.int (x5 i) :: rest))) : W p l e R s m args below meth c H locs cells slots Q (F0 m pc ls (.int (8 * nI g + nI i) :: .ref (a 6) :: rest)) := by
  rw [mi_nI hg hi]
  refine va_iald hx hb hK hP 6 0 rfl rfl (vp_in_nI (by omega) (by decide)) hd ?_
  rw [nI_clamp (by omega), mf64_at hi]
  exact kk
theorem ms_he {v : Int32} (hx : p.tables.exec = Jvm.exec) (hb : c.code = cc) (hK : va_K D cl (mty cI cJ cZ) s) (hP : va_P D cl (mw cI cJ cZ a co lg tm rm no (va_up M g (x0, x1, x2, x3, x4, x5, x6))) H) (hnd : (mad a).Nodup) (hAL : ∀ q ∈ mad a, A q) (hS : va_S A H0 H locs) (hg : g < 8) (hi : i < 8) (hd : decode cc pc = .ok (.iastore, 1)) (kk : ∀ (H1 : Heap) (locs1 : List Loc), va_P D cl (mw cI cJ cZ a co lg tm rm no (va_up M g (x0, x1, x2, x3, x4, upd x5 i (v), x6))) H1 → va_S A H0 H1 locs1 → W p l e R s m args below meth c H1 locs1 cells slots Q (F0 m (pc + 1) ls (rest))) : W p l e R s m args below meth c H locs cells slots Q (F0 m pc ls (.int v :: .int (8 * nI g + nI i) :: .ref (a 6) :: rest)) := by
  rw [mi_nI hg hi]
  refine va_iast hx hb hK hP (mw_D hnd hAL) hS 6 0 rfl rfl (vp_in_nI (by omega) (by decide)) hd (fun H1 locs1 hP1 _ hS1 => kk H1 locs1 ?_ hS1)
  rw [nI_clamp (by omega)] at hP1
  have hP1 : va_P D cl [(a 0, .inr (3, [.int co, .int lg, .int tm, .int rm, .int no, .ref (a 1), .ref (a 2), .ref (a 3), .ref (a 4), .ref (a 5), .ref (a 6), .ref (a 7)])), (a 1, .inl (cI, 8, .inl (mf8 mp0 (va_up M g (x0, x1, x2, x3, x4, x5, x6))))), (a 2, .inl (cI, 8, .inl (mf8 mp1 (va_up M g (x0, x1, x2, x3, x4, x5, x6))))), (a 3, .inl (cI, 8, .inl (mf8 mp2 (va_up M g (x0, x1, x2, x3, x4, x5, x6))))), (a 4, .inl (cZ, 64, .inl (mf64 mp3 (va_up M g (x0, x1, x2, x3, x4, x5, x6))))), (a 5, .inl (cZ, 64, .inl (mf64 mp4 (va_up M g (x0, x1, x2, x3, x4, x5, x6))))), (a 6, .inl (cI, 64, .inl (upd (mf64 mp5 (va_up M g (x0, x1, x2, x3, x4, x5, x6))) (8 * g + i) (v)))), (a 7, .inl (cJ, 64, .inr (.inl (mf64 mp6 (va_up M g (x0, x1, x2, x3, x4, x5, x6))))))] H1 := hP1
  rw [mf8_same (f := mp0) (y := (x0, x1, x2, x3, x4, x5, x6)) (y' := (x0, x1, x2, x3, x4, upd x5 i (v), x6)) rfl, mf8_same (f := mp1) (y := (x0, x1, x2, x3, x4, x5, x6)) (y' := (x0, x1, x2, x3, x4, upd x5 i (v), x6)) rfl, mf8_same (f := mp2) (y := (x0, x1, x2, x3, x4, x5, x6)) (y' := (x0, x1, x2, x3, x4, upd x5 i (v), x6)) rfl, mf64_same (f := mp3) (y := (x0, x1, x2, x3, x4, x5, x6)) (y' := (x0, x1, x2, x3, x4, upd x5 i (v), x6)) rfl, mf64_same (f := mp4) (y := (x0, x1, x2, x3, x4, x5, x6)) (y' := (x0, x1, x2, x3, x4, upd x5 i (v), x6)) rfl, mf64_set (f := mp5) (y' := (x0, x1, x2, x3, x4, upd x5 i (v), x6)) hi rfl, mf64_same (f := mp6) (y := (x0, x1, x2, x3, x4, x5, x6)) (y' := (x0, x1, x2, x3, x4, upd x5 i (v), x6)) rfl] at hP1
  exact hP1
theorem ml_of (hx : p.tables.exec = Jvm.exec) (hb : c.code = cc) (hK : va_K D cl (mty cI cJ cZ) s) (hP : va_P D cl (mw cI cJ cZ a co lg tm rm no (va_up M g (x0, x1, x2, x3, x4, x5, x6))) H) (hg : g < 8) (hi : i < 8) (hd : decode cc pc = .ok (.laload, 1)) (kk : W p l e R s m args below meth c H locs cells slots Q (F0 m (pc + 1) ls (.long (x6 i) :: rest))) : W p l e R s m args below meth c H locs cells slots Q (F0 m pc ls (.int (8 * nI g + nI i) :: .ref (a 7) :: rest)) := by
  rw [mi_nI hg hi]
  refine va_lald hx hb hK hP 7 1 rfl rfl (vp_in_nI (by omega) (by decide)) hd ?_
  rw [nI_clamp (by omega), mf64_at hi]
  exact kk
theorem ms_of {v : Int64} (hx : p.tables.exec = Jvm.exec) (hb : c.code = cc) (hK : va_K D cl (mty cI cJ cZ) s) (hP : va_P D cl (mw cI cJ cZ a co lg tm rm no (va_up M g (x0, x1, x2, x3, x4, x5, x6))) H) (hnd : (mad a).Nodup) (hAL : ∀ q ∈ mad a, A q) (hS : va_S A H0 H locs) (hg : g < 8) (hi : i < 8) (hd : decode cc pc = .ok (.lastore, 1)) (kk : ∀ (H1 : Heap) (locs1 : List Loc), va_P D cl (mw cI cJ cZ a co lg tm rm no (va_up M g (x0, x1, x2, x3, x4, x5, vp_updL x6 i (v)))) H1 → va_S A H0 H1 locs1 → W p l e R s m args below meth c H1 locs1 cells slots Q (F0 m (pc + 1) ls (rest))) : W p l e R s m args below meth c H locs cells slots Q (F0 m pc ls (.long v :: .int (8 * nI g + nI i) :: .ref (a 7) :: rest)) := by
  rw [mi_nI hg hi]
  refine va_last hx hb hK hP (mw_D hnd hAL) hS 7 1 rfl rfl (vp_in_nI (by omega) (by decide)) hd (fun H1 locs1 hP1 _ hS1 => kk H1 locs1 ?_ hS1)
  rw [nI_clamp (by omega)] at hP1
  have hP1 : va_P D cl [(a 0, .inr (3, [.int co, .int lg, .int tm, .int rm, .int no, .ref (a 1), .ref (a 2), .ref (a 3), .ref (a 4), .ref (a 5), .ref (a 6), .ref (a 7)])), (a 1, .inl (cI, 8, .inl (mf8 mp0 (va_up M g (x0, x1, x2, x3, x4, x5, x6))))), (a 2, .inl (cI, 8, .inl (mf8 mp1 (va_up M g (x0, x1, x2, x3, x4, x5, x6))))), (a 3, .inl (cI, 8, .inl (mf8 mp2 (va_up M g (x0, x1, x2, x3, x4, x5, x6))))), (a 4, .inl (cZ, 64, .inl (mf64 mp3 (va_up M g (x0, x1, x2, x3, x4, x5, x6))))), (a 5, .inl (cZ, 64, .inl (mf64 mp4 (va_up M g (x0, x1, x2, x3, x4, x5, x6))))), (a 6, .inl (cI, 64, .inl (mf64 mp5 (va_up M g (x0, x1, x2, x3, x4, x5, x6))))), (a 7, .inl (cJ, 64, .inr (.inl (vp_updL (mf64 mp6 (va_up M g (x0, x1, x2, x3, x4, x5, x6))) (8 * g + i) (v)))))] H1 := hP1
  rw [mf8_same (f := mp0) (y := (x0, x1, x2, x3, x4, x5, x6)) (y' := (x0, x1, x2, x3, x4, x5, vp_updL x6 i (v))) rfl, mf8_same (f := mp1) (y := (x0, x1, x2, x3, x4, x5, x6)) (y' := (x0, x1, x2, x3, x4, x5, vp_updL x6 i (v))) rfl, mf8_same (f := mp2) (y := (x0, x1, x2, x3, x4, x5, x6)) (y' := (x0, x1, x2, x3, x4, x5, vp_updL x6 i (v))) rfl, mf64_same (f := mp3) (y := (x0, x1, x2, x3, x4, x5, x6)) (y' := (x0, x1, x2, x3, x4, x5, vp_updL x6 i (v))) rfl, mf64_same (f := mp4) (y := (x0, x1, x2, x3, x4, x5, x6)) (y' := (x0, x1, x2, x3, x4, x5, vp_updL x6 i (v))) rfl, mf64_same (f := mp5) (y := (x0, x1, x2, x3, x4, x5, x6)) (y' := (x0, x1, x2, x3, x4, x5, vp_updL x6 i (v))) rfl, mf64_setL (f := mp6) (y' := (x0, x1, x2, x3, x4, x5, vp_updL x6 i (v))) hi rfl] at hP1
  exact hP1
end MWA
end
section
/-! what the reference does, as functions of numbers -/
def mz (f : Nat → Int32) : Nat → Nat → Int32
  | 0 => f
  | i + 1 => upd (mz f i) i 0
def mt (f : Nat → Int32) (t : Int32) : Nat → Nat → Int32
  | 0 => f
  | i + 1 => upd (mt f t i) i t
def md (me jo : Nat → Int32) : Nat → Nat → Int32
  | 0 => me
  | i + 1 => upd (md me jo i) i (if md me jo i i = 0 then 0 else if jo i = 0 then 0 else 1)
def mg_cnt (me : Nat → Int32) : Nat → Int32
  | 0 => 0
  | i + 1 => mg_cnt me i + (if me i = 0 then 0 else 1)
def mg_jn (me jo : Nat → Int32) : Nat → Int32
  | 0 => 0
  | i + 1 => mg_jn me jo i + (if me i = 0 then 0 else if jo i = 0 then 0 else 1)
def mn_take (rm no : Int32) : Int32 × Int32 × Int32 := if rm = 0 then (0, rm, no) else (1, rm - 1, no + 1)
def mg_emp : mGV → mGV
  | (_, x1, x2, x3, x4, x5, x6) => (0, x1, x2, mz x3 8, mz x4 8, x5, x6)
def mg_mix (t : Int32) : mGV → mGV
  | (_, x1, _, x3, x4, x5, x6) => (1, x1, t + 20, x3, mz x4 8, x5, x6)
def mg_wo (t : Int32) (y : mGV) : mGV := if mg_cnt y.2.2.2.1 8 = 0 then mg_emp y else if y.1 = 2 then mg_mix t y else y
def mg_set (t : Int32) : mGV → mGV
  | (_, x1, x2, x3, x4, x5, x6) => (2, x1 + 1, x2, md x3 x4 8, x4, mt x5 t 8, x6)
def mg_go (t rm no : Int32) (y : mGV) : mGV × Int32 × Int32 :=
  if mg_jn y.2.2.2.1 y.2.2.2.2.1 8 = 0 then (mg_emp y, rm, no) else if (mn_take rm no).1 = 0 then (y, (mn_take rm no).2.1, (mn_take rm no).2.2) else (mg_set t y, (mn_take rm no).2.1, (mn_take rm no).2.2)
def mg_done (t rm no : Int32) (y : mGV) : mGV × Int32 × Int32 :=
  if y.1 = 1 then (if mg_cnt y.2.2.2.1 8 ≤ mg_jn y.2.2.2.1 y.2.2.2.2.1 8 then mg_go t rm no y else if y.2.2.1 ≤ t then mg_go t rm no y else (y, rm, no)) else (y, rm, no)
/-- member by member: who is still there, whether one was lost -/
def mtk (me he : Nat → Int32) (t : Int32) : Nat → (Nat → Int32) × Int32
  | 0 => (me, 0)
  | i + 1 => if (mtk me he t i).1 i = 0 then mtk me he t i else if t - he i < 30 then mtk me he t i else (upd (mtk me he t i).1 i 0, 1)
def mg_tk (t : Int32) : mGV → mGV
  | (x0, x1, x2, x3, x4, x5, x6) => if x0 = 2 then (if (mtk x3 x5 t 8).2 = 0 then (x0, x1, x2, (mtk x3 x5 t 8).1, x4, x5, x6) else mg_wo t (x0, x1, x2, (mtk x3 x5 t 8).1, x4, x5, x6)) else (x0, x1, x2, x3, x4, x5, x6)
/-- from m on, the first member's number -/
def mo_nx (me : Nat → Int32) : Nat → Nat → Nat
  | 0, m => m
  | f + 1, m => if me (m % 8) = 0 then mo_nx me f (m + 1) else m
def mo_s (me : Nat → Int32) : Nat → Nat
  | 0 => 0
  | k + 1 => mo_nx me 8 (mo_s me k) + 1
def mo (me : Nat → Int32) (k : Nat) : Nat := mo_nx me 8 (mo_s me k) % 8
def mbd (f : Nat → Int32) : Nat → Int32 → Int32
  | 0, b => b
  | k + 1, b => mbd f k (2 * b + f k)
def mg_is (w x0 : Int32) (me jo : Nat → Int32) (k : Nat) : Int32 := if me k = 0 then 0 else if w = 2 then 1 else if x0 = 2 then 1 else if jo k = 0 then 0 else 1
def mrs (M : Nat → mGV) : Nat → Int32 × (Nat → mGV)
  | 0 => (0, M)
  | i + 1 => ((mrs M i).1 + mg_cnt ((mrs M i).2 i).2.2.2.1 8, va_up (mrs M i).2 i (mg_emp ((mrs M i).2 i)))
def mdt (t rm no : Int32) (M : Nat → mGV) : Nat → Int32 × Int32 × (Nat → mGV)
  | 0 => (rm, no, M)
  | i + 1 => ((mg_done t (mdt t rm no M i).1 (mdt t rm no M i).2.1 (mg_tk t ((mdt t rm no M i).2.2 i))).2.1, (mg_done t (mdt t rm no M i).1 (mdt t rm no M i).2.1 (mg_tk t ((mdt t rm no M i).2.2 i))).2.2,
      va_up (mdt t rm no M i).2.2 i (mg_done t (mdt t rm no M i).1 (mdt t rm no M i).2.1 (mg_tk t ((mdt t rm no M i).2.2 i))).1)
def md_tick : mDV → mDV
  | (co, lg, tm, rm, no, M) => (co, lg, tm + 1, (mdt (tm + 1) rm no M 8).1, (mdt (tm + 1) rm no M 8).2.1, (mdt (tm + 1) rm no M 8).2.2)
def md_ticks (v : mDV) : Nat → mDV
  | 0 => v
  | i + 1 => md_tick (md_ticks v i)
theorem vz0 : vp_nar .boolean 0 = 0 := by decide
theorem vz1 : vp_nar .boolean 1 = 1 := by decide
theorem m_rem {k : Nat} (h : k < 2 ^ 31) : nI k - nI k / 8 * 8 = nI (k % 8) := by
  have h1 : nI k - nI k / 8 * 8 = nI k % 8 := by
    apply Int32.toInt_inj.mp
    rw [Int32.toInt_mod]
    have e : (nI k).toInt = (k : Int) := nI_toInt h
    have e8 : (8 : Int32).toInt = 8 := rfl
    rw [Int32.toInt_sub, Int32.toInt_mul, Int32.toInt_div_of_ne_right _ _ (by decide), e, e8]
    have e2 : (k : Int).tdiv 8 = (k / 8 : Nat) := by rw [Int.tdiv_eq_ediv_of_nonneg (by omega)]; omega
    have e3 : (k : Int).tmod 8 = (k % 8 : Nat) := by rw [Int.tmod_eq_emod_of_nonneg (by omega)]; omega
    rw [e2, e3]
    have b1 : ((((k / 8 : Nat) : Int) * 8).bmod (2 ^ 32)) = ((k / 8 : Nat) : Int) * 8 := by rw [Int.bmod_eq_of_le (by omega) (by omega)]
    rw [b1, Int.bmod_eq_of_le (by omega) (by omega)]
    omega
  rw [h1]
  apply Int32.toInt_inj.mp
  rw [Int32.toInt_mod, nI_toInt h, nI_toInt (by omega), show (8 : Int32).toInt = 8 from rfl, Int.tmod_eq_emod_of_nonneg (by omega)]
  omega
theorem m_pred (k : Nat) : nI (k + 1) + (-1) = nI k := by rw [nI_succ]; rw [Int32.add_assoc]; simp
theorem m_inc (k : Nat) : nI k - 1 + 1 = nI k := by rw [Int32.sub_add_cancel]
end
section
set_option maxHeartbeats 4000000 in
set_option maxRecDepth 100000 in
theorem c_M_isOne (l : Launch) (x : Int32) : Met l y_M_isOne w_M_isOne ({ frames := 0, cells := 0, slots := 0, locals := 0 }) (fun v _ => v = [Value.int x].toArray) (vp_Si (fun r => (r = 1 ∧ vp_in x 8) ∨ (r = 0 ∧ ¬ vp_in x 8))) 0 0 (fun _ => False) := by
  refine Met.ofW (cc := b_M_isOne) (maxL := 1) (ret := (some .boolean)) (by decide) rfl ?_
  intro p e s m args below meth c s₁ B hml hv
  obtain rfl := hv
  have hx := B.exec
  have hb := B.bytes
  have hr := B.returns
  have hts := atoms_spec (ws := w_M_isOne) B.pre
  have hw := fun (w : Cond) (h : w ∈ kb_B) => hts w (List.mem_cons_of_mem _ h)
  have hown : s.vm.findClass R_M = some m.cls := findClass_of_methodNamed B.named
  have hlocks := B.notSynchronized
  have hl := lv_entry ([.int x]) (n := 1) (Nat.le_of_ble_eq_true rfl)
  rw [lg_entry_eq]
  generalize (lg_sl ([.int x]) ++ List.replicate (1 - (lg_sl ([.int x])).length) Slot.unset).toArray = ls at hl ⊢
  have hl : lv_has ls 1 [(0, .int x)] := hl
  refine lv_iload_n hx hb d_M_isOne_0 rfl (lv_at hl 0 rfl) ?_
  refine lv_if_lt (tgt := 14) hx hb d_M_isOne_1 (by decide) (fun c_1 => ?_) (fun c_1 => ?_)
  · refine lv_iconst (v := 0) hx hb d_M_isOne_14 (by decide) ?_
    exact W.zret (v := 0) hx hb hr (by decide) (fun t ht hW => ⟨_, rfl, Or.inr ⟨rfl, kn_no0 c_1⟩, ht⟩) (fun q h => by cases h) d_M_isOne_15
  · refine lv_iload_n hx hb d_M_isOne_4 rfl (lv_at hl 0 rfl) ?_
    refine lv_bipush (v := 8) hx hb d_M_isOne_5 (by decide) ?_
    refine lv_icmp_ge (tgt := 14) hx hb d_M_isOne_7 (by decide) (fun c_2 => ?_) (fun c_2 => ?_)
    · refine lv_iconst (v := 0) hx hb d_M_isOne_14 (by decide) ?_
      exact W.zret (v := 0) hx hb hr (by decide) (fun t ht hW => ⟨_, rfl, Or.inr ⟨rfl, kn_ge (y := 8) (by decide) (Int32.not_lt.mpr c_2)⟩, ht⟩) (fun q h => by cases h) d_M_isOne_15
    · refine lv_iconst (v := 1) hx hb d_M_isOne_10 (by decide) ?_
      refine lv_goto (tgt := 15) hx hb d_M_isOne_11 (by decide) ?_
      exact W.zret (v := 1) hx hb hr (by decide) (fun t ht hW => ⟨_, rfl, Or.inl ⟨rfl, kn_lt (y := 8) (by decide) c_1 (Int32.not_le.mp c_2)⟩, ht⟩) (fun q h => by cases h) d_M_isOne_15
set_option maxHeartbeats 4000000 in
set_option maxRecDepth 100000 in
theorem c_M_thrown (l : Launch) {dC : Nat → ClassId} {dI : Nat → Nat → Nat} {cI cJ cZ : ClassId} {a : Nat → Nat} (hnd : (mad a).Nodup) (co lg tm rm no : Int32) (M : Nat → mGV) (sz : Nat) : Met l y_M_thrown w_M_thrown ({ frames := 0, cells := 0, slots := 0, locals := 0 }) (kPre (dC, dI) vwCl (mty cI cJ cZ) [.ref (a 0)] sz (mw cI cJ cZ a co lg tm rm no M)) (vp_Si (fun r => r = co)) 0 0 (fun _ => False) := by
  refine Met.ofW (cc := b_M_thrown) (maxL := 1) (ret := (some .int)) (by decide) rfl ?_
  intro p e s m args below meth c s₁ B hml hv
  obtain ⟨rfl, hsz, hP, hK⟩ := hv
  have hx := B.exec
  have hb := B.bytes
  have hr := B.returns
  have hts := atoms_spec (ws := w_M_thrown) B.pre
  have hw := fun (w : Cond) (h : w ∈ kb_B) => hts w (List.mem_cons_of_mem _ h)
  have hown : s.vm.findClass R_M = some m.cls := findClass_of_methodNamed B.named
  have hlocks := B.notSynchronized
  subst hsz
  have hl := lv_entry ([.ref (a 0)]) (n := 1) (Nat.le_of_ble_eq_true rfl)
  rw [lg_entry_eq]
  generalize (lg_sl ([.ref (a 0)]) ++ List.replicate (1 - (lg_sl ([.ref (a 0)])).length) Slot.unset).toArray = ls at hl ⊢
  have hl : lv_has ls 1 [(0, .ref (a 0))] := hl
  refine lv_aload_n hx hb d_M_thrown_0 rfl (lv_at hl 0 rfl) ?_
  refine va_get (D := (dC, dI)) (ci := 3) (v := .int co) (C := R_M) (T := F_M) (N := 12) hx hb hw i_M hown hK hP 0 rfl rfl 0 (by decide) (hw _ kb_336) (fun _ h9 => h9) rfl d_M_thrown_1 ?_
  exact W.iret (v := co) hx hb hr (fun t ht hW => ⟨_, rfl, by first | (simp only []; done) | (simp []; done), ht⟩) (fun q h => by cases h) d_M_thrown_4
set_option maxHeartbeats 4000000 in
set_option maxRecDepth 100000 in
theorem c_M_goes0 (l : Launch) {dC : Nat → ClassId} {dI : Nat → Nat → Nat} {cI cJ cZ : ClassId} {a : Nat → Nat} (hnd : (mad a).Nodup) (co lg tm rm no : Int32) (M : Nat → mGV) (sz : Nat) : Met l y_M_goes w_M_goes ({ frames := 0, cells := 0, slots := 0, locals := 0 }) (kPre (dC, dI) vwCl (mty cI cJ cZ) [.ref (a 0), .int 0] sz (mw cI cJ cZ a co lg tm rm no M)) (va_Qi (fun (r : Int32) (u : mDV) => r = 0 ∧ u = (1, lg, tm, rm, no, M)) (fun u t => va_P (dC, dI) vwCl (mwv cI cJ cZ a u) t.heap) (kA (mad a) sz)) 0 0 (kA (mad a) sz) := by
  refine Met.ofW (cc := b_M_goes) (maxL := 2) (ret := (some .boolean)) (by decide) rfl ?_
  intro p e s m args below meth c s₁ B hml hv
  obtain ⟨rfl, hsz, hP, hK⟩ := hv
  have hx := B.exec
  have hb := B.bytes
  have hr := B.returns
  have hts := atoms_spec (ws := w_M_goes) B.pre
  have hw := fun (w : Cond) (h : w ∈ kb_B) => hts w (List.mem_cons_of_mem _ h)
  have hown : s.vm.findClass R_M = some m.cls := findClass_of_methodNamed B.named
  have hlocks := B.notSynchronized
  subst hsz
  generalize hAe : kA (mad a) s.heap.size = A
  have hA : ∀ q : Nat, s.heap.size ≤ q → A q := fun q h => by rw [← hAe]; exact Or.inr h
  have hAL : ∀ q ∈ (mad a), A q := fun q h => by rw [← hAe]; exact Or.inl h
  have hS : va_S A s.heap s.heap [] := va_S.rf
  have hl := lv_entry ([.ref (a 0), .int 0]) (n := 2) (Nat.le_of_ble_eq_true rfl)
  rw [lg_entry_eq]
  generalize (lg_sl ([.ref (a 0), .int 0]) ++ List.replicate (2 - (lg_sl ([.ref (a 0), .int 0])).length) Slot.unset).toArray = ls at hl ⊢
  have hl : lv_has ls 2 [(0, .ref (a 0)), (1, .int 0)] := hl
  refine lv_aload_n hx hb d_M_goes_0 rfl (lv_at hl 0 rfl) ?_
  refine lv_iload_n hx hb d_M_goes_1 rfl (lv_at hl 1 rfl) ?_
  refine lv_if_eq (tgt := 9) hx hb d_M_goes_2 (by decide) (fun c_1 => ?_) (fun c_1 => (c_1 (by decide)).elim)
  refine lv_iconst (v := 1) hx hb d_M_goes_9 (by decide) ?_
  refine va_put (D := (dC, dI)) (ci := 3) (v := .int 1) (ty := .int) (C := R_M) (T := F_M) (N := 12) hx hb hw i_M t_M t_M_ok n_M hown hK hP (mw_D hnd hAL) hS 0 rfl rfl 0 (by decide) (hw _ kb_336) (fun _ h9 => h9) rfl (by decide +kernel) rfl rfl (Nat.le_of_ble_eq_true rfl) d_M_goes_10 (fun H locs hP _ hS => ?_)
  have hP : va_P (dC, dI) vwCl (mw cI cJ cZ a 1 lg tm rm no M) _ := hP
  refine lv_iload_n hx hb d_M_goes_13 rfl (lv_at hl 1 rfl) ?_
  exact W.zret (v := 0) hx hb hr (by decide) (fun t ht hW => ⟨⟨_, (1, lg, tm, rm, no, M), rfl, ⟨by first | (simp only []; done) | (simp []; done), by first | (simp only []; done) | (simp []; done)⟩, by show va_P _ _ _ t.heap; rw [ht]; exact hP⟩, hS.F ht⟩) hS.2.2 d_M_goes_14
set_option maxHeartbeats 4000000 in
set_option maxRecDepth 100000 in
theorem c_M_goes1 (l : Launch) {dC : Nat → ClassId} {dI : Nat → Nat → Nat} {cI cJ cZ : ClassId} {a : Nat → Nat} (hnd : (mad a).Nodup) (co lg tm rm no : Int32) (M : Nat → mGV) (sz : Nat) : Met l y_M_goes w_M_goes ({ frames := 0, cells := 0, slots := 0, locals := 0 }) (kPre (dC, dI) vwCl (mty cI cJ cZ) [.ref (a 0), .int 1] sz (mw cI cJ cZ a co lg tm rm no M)) (va_Qi (fun (r : Int32) (u : mDV) => r = 1 ∧ u = (0, lg, tm, rm, no, M)) (fun u t => va_P (dC, dI) vwCl (mwv cI cJ cZ a u) t.heap) (kA (mad a) sz)) 0 0 (kA (mad a) sz) := by
  refine Met.ofW (cc := b_M_goes) (maxL := 2) (ret := (some .boolean)) (by decide) rfl ?_
  intro p e s m args below meth c s₁ B hml hv
  obtain ⟨rfl, hsz, hP, hK⟩ := hv
  have hx := B.exec
  have hb := B.bytes
  have hr := B.returns
  have hts := atoms_spec (ws := w_M_goes) B.pre
  have hw := fun (w : Cond) (h : w ∈ kb_B) => hts w (List.mem_cons_of_mem _ h)
  have hown : s.vm.findClass R_M = some m.cls := findClass_of_methodNamed B.named
  have hlocks := B.notSynchronized
  subst hsz
  generalize hAe : kA (mad a) s.heap.size = A
  have hA : ∀ q : Nat, s.heap.size ≤ q → A q := fun q h => by rw [← hAe]; exact Or.inr h
  have hAL : ∀ q ∈ (mad a), A q := fun q h => by rw [← hAe]; exact Or.inl h
  have hS : va_S A s.heap s.heap [] := va_S.rf
  have hl := lv_entry ([.ref (a 0), .int 1]) (n := 2) (Nat.le_of_ble_eq_true rfl)
  rw [lg_entry_eq]
  generalize (lg_sl ([.ref (a 0), .int 1]) ++ List.replicate (2 - (lg_sl ([.ref (a 0), .int 1])).length) Slot.unset).toArray = ls at hl ⊢
  have hl : lv_has ls 2 [(0, .ref (a 0)), (1, .int 1)] := hl
  refine lv_aload_n hx hb d_M_goes_0 rfl (lv_at hl 0 rfl) ?_
  refine lv_iload_n hx hb d_M_goes_1 rfl (lv_at hl 1 rfl) ?_
  refine lv_if_eq (tgt := 9) hx hb d_M_goes_2 (by decide) (fun c_1 => absurd c_1 (by decide)) (fun c_1 => ?_)
  refine lv_iconst (v := 0) hx hb d_M_goes_5 (by decide) ?_
  refine lv_goto (tgt := 10) hx hb d_M_goes_6 (by decide) ?_
  refine va_put (D := (dC, dI)) (ci := 3) (v := .int 0) (ty := .int) (C := R_M) (T := F_M) (N := 12) hx hb hw i_M t_M t_M_ok n_M hown hK hP (mw_D hnd hAL) hS 0 rfl rfl 0 (by decide) (hw _ kb_336) (fun _ h9 => h9) rfl (by decide +kernel) rfl rfl (Nat.le_of_ble_eq_true rfl) d_M_goes_10 (fun H locs hP _ hS => ?_)
  have hP : va_P (dC, dI) vwCl (mw cI cJ cZ a 0 lg tm rm no M) _ := hP
  refine lv_iload_n hx hb d_M_goes_13 rfl (lv_at hl 1 rfl) ?_
  exact W.zret (v := 1) hx hb hr (by decide) (fun t ht hW => ⟨⟨_, (0, lg, tm, rm, no, M), rfl, ⟨by first | (simp only []; done) | (simp []; done), by first | (simp only []; done) | (simp []; done)⟩, by show va_P _ _ _ t.heap; rw [ht]; exact hP⟩, hS.F ht⟩) hS.2.2 d_M_goes_14
set_option maxHeartbeats 4000000 in
set_option maxRecDepth 100000 in
theorem c_M_takesNote (l : Launch) {dC : Nat → ClassId} {dI : Nat → Nat → Nat} {cI cJ cZ : ClassId} {a : Nat → Nat} (hnd : (mad a).Nodup) (co lg tm rm no : Int32) (M : Nat → mGV) (sz : Nat) : Met l y_M_takesNote w_M_takesNote ({ frames := 0, cells := 0, slots := 0, locals := 0 }) (kPre (dC, dI) vwCl (mty cI cJ cZ) [.ref (a 0)] sz (mw cI cJ cZ a co lg tm rm no M)) (va_Qi (fun (r : Int32) (u : mDV) => r = (mn_take rm no).1 ∧ u = (co, lg, tm, (mn_take rm no).2.1, (mn_take rm no).2.2, M)) (fun u t => va_P (dC, dI) vwCl (mwv cI cJ cZ a u) t.heap) (kA (mad a) sz)) 0 0 (kA (mad a) sz) := by
  refine Met.ofW (cc := b_M_takesNote) (maxL := 1) (ret := (some .boolean)) (by decide) rfl ?_
  intro p e s m args below meth c s₁ B hml hv
  obtain ⟨rfl, hsz, hP, hK⟩ := hv
  have hx := B.exec
  have hb := B.bytes
  have hr := B.returns
  have hts := atoms_spec (ws := w_M_takesNote) B.pre
  have hw := fun (w : Cond) (h : w ∈ kb_B) => hts w (List.mem_cons_of_mem _ h)
  have hown : s.vm.findClass R_M = some m.cls := findClass_of_methodNamed B.named
  have hlocks := B.notSynchronized
  subst hsz
  generalize hAe : kA (mad a) s.heap.size = A
  have hA : ∀ q : Nat, s.heap.size ≤ q → A q := fun q h => by rw [← hAe]; exact Or.inr h
  have hAL : ∀ q ∈ (mad a), A q := fun q h => by rw [← hAe]; exact Or.inl h
  have hS : va_S A s.heap s.heap [] := va_S.rf
  have hl := lv_entry ([.ref (a 0)]) (n := 1) (Nat.le_of_ble_eq_true rfl)
  rw [lg_entry_eq]
  generalize (lg_sl ([.ref (a 0)]) ++ List.replicate (1 - (lg_sl ([.ref (a 0)])).length) Slot.unset).toArray = ls at hl ⊢
  have hl : lv_has ls 1 [(0, .ref (a 0))] := hl
  refine lv_aload_n hx hb d_M_takesNote_0 rfl (lv_at hl 0 rfl) ?_
  refine va_get (D := (dC, dI)) (ci := 3) (v := .int rm) (C := R_M) (T := F_M) (N := 12) hx hb hw i_M hown hK hP 0 rfl rfl 3 (by decide) (hw _ kb_339) (fun _ h9 => h9) rfl d_M_takesNote_1 ?_
  refine lv_if_ne (tgt := 9) hx hb d_M_takesNote_4 (by decide) (fun c_1 => ?_) (fun c_1 => ?_)
  · refine lv_aload_n hx hb d_M_takesNote_9 rfl (lv_at hl 0 rfl) ?_
    refine lv_dup hx hb d_M_takesNote_10 rfl ?_
    refine va_get (D := (dC, dI)) (ci := 3) (v := .int rm) (C := R_M) (T := F_M) (N := 12) hx hb hw i_M hown hK hP 0 rfl rfl 3 (by decide) (hw _ kb_339) (fun _ h9 => h9) rfl d_M_takesNote_11 ?_
    refine lv_iconst (v := 1) hx hb d_M_takesNote_14 (by decide) ?_
    refine lv_isub hx hb d_M_takesNote_15 ?_
    refine va_put (D := (dC, dI)) (ci := 3) (v := .int (rm - (1 : Int32))) (ty := .int) (C := R_M) (T := F_M) (N := 12) hx hb hw i_M t_M t_M_ok n_M hown hK hP (mw_D hnd hAL) hS 0 rfl rfl 3 (by decide) (hw _ kb_339) (fun _ h9 => h9) rfl (by decide +kernel) rfl rfl (Nat.le_of_ble_eq_true rfl) d_M_takesNote_16 (fun H locs hP _ hS => ?_)
    have hP : va_P (dC, dI) vwCl (mw cI cJ cZ a co lg tm (rm - (1 : Int32)) no M) _ := hP
    refine lv_aload_n hx hb d_M_takesNote_19 rfl (lv_at hl 0 rfl) ?_
    refine lv_dup hx hb d_M_takesNote_20 rfl ?_
    refine va_get (D := (dC, dI)) (ci := 3) (v := .int no) (C := R_M) (T := F_M) (N := 12) hx hb hw i_M hown hK hP 0 rfl rfl 4 (by decide) (hw _ kb_340) (fun _ h9 => h9) rfl d_M_takesNote_21 ?_
    refine lv_iconst (v := 1) hx hb d_M_takesNote_24 (by decide) ?_
    refine lv_iadd hx hb d_M_takesNote_25 ?_
    refine va_put (D := (dC, dI)) (ci := 3) (v := .int (no + (1 : Int32))) (ty := .int) (C := R_M) (T := F_M) (N := 12) hx hb hw i_M t_M t_M_ok n_M hown hK hP (mw_D hnd hAL) hS 0 rfl rfl 4 (by decide) (hw _ kb_340) (fun _ h9 => h9) rfl (by decide +kernel) rfl rfl (Nat.le_of_ble_eq_true rfl) d_M_takesNote_26 (fun H locs hP _ hS => ?_)
    have hP : va_P (dC, dI) vwCl (mw cI cJ cZ a co lg tm (rm - (1 : Int32)) (no + (1 : Int32)) M) _ := hP
    refine lv_iconst (v := 1) hx hb d_M_takesNote_29 (by decide) ?_
    exact W.zret (v := 1) hx hb hr (by decide) (fun t ht hW => ⟨⟨_, (co, lg, tm, rm - (1 : Int32), no + (1 : Int32), M), rfl, ⟨by first | (simp only [mn_take, if_neg c_1]; done) | (simp [mn_take, c_1]; done), by first | (simp only [mn_take, if_neg c_1]; done) | (simp [mn_take, c_1]; done)⟩, by show va_P _ _ _ t.heap; rw [ht]; exact hP⟩, hS.F ht⟩) hS.2.2 d_M_takesNote_30
  · refine lv_iconst (v := 0) hx hb d_M_takesNote_7 (by decide) ?_
    exact W.zret (v := 0) hx hb hr (by decide) (fun t ht hW => ⟨⟨_, (co, lg, tm, rm, no, M), rfl, ⟨by first | (simp only [mn_take, if_pos c_1]; done) | (simp [mn_take, c_1]; done), by first | (simp only [mn_take, if_pos c_1]; done) | (simp [mn_take, c_1]; done)⟩, by show va_P _ _ _ t.heap; rw [ht]; exact hP⟩, hS.F ht⟩) hS.2.2 d_M_takesNote_8
set_option maxHeartbeats 4000000 in
set_option maxRecDepth 100000 in
theorem lp_M_count {p : Program} {l : Launch} {e : Env} {s : State} {m : MethodId} {args : Array Value} {below : List Frame} {meth : Method} {c : Code} {Q : State → Prop} {dC : Nat → ClassId} {dI : Nat → Nat → Nat} {cI cJ cZ : ClassId} {a : Nat → Nat} (hnd : (mad a).Nodup) {co lg tm rm no : Int32} {M : Nat → mGV} {g : Nat} (hg : g < 8) {x0 x1 x2 : Int32} {x3 x4 x5 : Nat → Int32} {x6 : Nat → Int64} {H : Heap} {locs : List Loc} (hx : p.tables.exec = Jvm.exec) (hb : c.code = b_M_count) (hml : c.maxLocals = 4) (hown : s.vm.findClass R_M = some m.cls) (hw : ∀ w ∈ kb_B, w.before args s = true) (hK : va_K (dC, dI) vwCl (mty cI cJ cZ) s)  (hP : va_P (dC, dI) vwCl (mw cI cJ cZ a co lg tm rm no (va_up M g (x0, x1, x2, x3, x4, x5, x6))) H)
    (kk : ∀ ls : Array Slot, lv_has ls 4 [(3, .int (nI 8)), (2, .int (mg_cnt x3 8)), (0, .ref (a 0)), (1, .int (nI g))] → W p l e (headSpec w_M_count ({ frames := 0, cells := 0, slots := 0, locals := 0 })).room s m args below meth c H locs 0 0 Q (F0 m 38 ls [])) :
    ∀ (k i : Nat) (ls : Array Slot), i + k = 8 → lv_has ls 4 [(3, .int (nI i)), (2, .int (mg_cnt x3 i)), (0, .ref (a 0)), (1, .int (nI g))] → W p l e (headSpec w_M_count ({ frames := 0, cells := 0, slots := 0, locals := 0 })).room s m args below meth c H locs 0 0 Q (F0 m 4 ls []) := by
  intro k
  induction k with
  | zero =>
    intro i ls hi hl
    have hi8 : i = 8 := by omega
    subst hi8
    refine lv_iload_n hx hb d_M_count_4 rfl (lv_at hl 0 rfl) ?_
    refine lv_bipush (v := 8) hx hb d_M_count_5 (by decide) ?_
    refine lv_icmp_ge (tgt := 38) hx hb d_M_count_7 (by decide) (fun c_1 => ?_) (fun c_1 => ?_)
    · exact kk ls hl
    · exact absurd (nI_le (Nat.le_refl 8) (by decide)) c_1
  | succ k ih =>
    intro i ls hi hl
    refine lv_iload_n hx hb d_M_count_4 rfl (lv_at hl 0 rfl) ?_
    refine lv_bipush (v := 8) hx hb d_M_count_5 (by decide) ?_
    refine lv_icmp_ge (tgt := 38) hx hb d_M_count_7 (by decide) (fun c_1 => ?_) (fun c_1 => ?_)
    · exact absurd c_1 (nI_ge (a := i) (b := 8) (by omega) (by decide))
    · refine lv_iload_n hx hb d_M_count_10 rfl (lv_at hl 1 rfl) ?_
      refine lv_aload_n hx hb d_M_count_11 rfl (lv_at hl 2 rfl) ?_
      refine va_get (D := (dC, dI)) (ci := 3) (v := .ref (a 4)) (C := R_M) (T := F_M) (N := 12) hx hb hw i_M hown hK hP 0 rfl rfl 8 (by decide) (hw _ kb_344) (fun _ h9 => h9) rfl d_M_count_12 ?_
      refine lv_bipush (v := 8) hx hb d_M_count_15 (by decide) ?_
      refine lv_iload_n hx hb d_M_count_17 rfl (lv_at hl 3 rfl) ?_
      refine lv_imul hx hb d_M_count_18 ?_
      refine lv_iload_n hx hb d_M_count_19 rfl (lv_at hl 0 rfl) ?_
      refine lv_iadd hx hb d_M_count_20 ?_
      refine ml_me (i := i) hx hb hK hP hg (show i < 8 by omega) d_M_count_21 ?_
      refine lv_if_eq (tgt := 29) hx hb d_M_count_22 (by decide) (fun c_2 => ?_) (fun c_2 => ?_)
      · refine lv_iconst (v := 0) hx hb d_M_count_29 (by decide) ?_
        refine lv_iadd hx hb d_M_count_30 ?_
        refine lv_istore_n (lv' := [(2, .int ((mg_cnt x3 i) + (0 : Int32))), (3, .int (nI i)), (0, .ref (a 0)), (1, .int (nI g))]) hx hb d_M_count_31 rfl hl (by decide) rfl (fun ls hl => ?_)
        refine lv_iinc (v := (nI i) + 1) (lv' := [(3, .int ((nI i) + 1)), (2, .int ((mg_cnt x3 i) + (0 : Int32))), (0, .ref (a 0)), (1, .int (nI g))]) hx hb d_M_count_32 hl (k := 1) rfl rfl (by decide) rfl (fun ls hl => ?_)
        refine lv_goto (tgt := 4) hx hb d_M_count_35 (by decide) ?_
        have hs0 : mg_cnt x3 (i + 1) = (mg_cnt x3 i) + (0 : Int32) := by simp only [mg_cnt, if_pos c_2]
        refine ih (i + 1) ls (by omega) ?_
        rw [nI_succ, hs0]; exact lv_sub hl [0, 1, 2, 3] rfl
      · refine lv_iconst (v := 1) hx hb d_M_count_25 (by decide) ?_
        refine lv_goto (tgt := 30) hx hb d_M_count_26 (by decide) ?_
        refine lv_iadd hx hb d_M_count_30 ?_
        refine lv_istore_n (lv' := [(2, .int ((mg_cnt x3 i) + (1 : Int32))), (3, .int (nI i)), (0, .ref (a 0)), (1, .int (nI g))]) hx hb d_M_count_31 rfl hl (by decide) rfl (fun ls hl => ?_)
        refine lv_iinc (v := (nI i) + 1) (lv' := [(3, .int ((nI i) + 1)), (2, .int ((mg_cnt x3 i) + (1 : Int32))), (0, .ref (a 0)), (1, .int (nI g))]) hx hb d_M_count_32 hl (k := 1) rfl rfl (by decide) rfl (fun ls hl => ?_)
        refine lv_goto (tgt := 4) hx hb d_M_count_35 (by decide) ?_
        have hs0 : mg_cnt x3 (i + 1) = (mg_cnt x3 i) + (1 : Int32) := by simp only [mg_cnt, if_neg c_2]
        refine ih (i + 1) ls (by omega) ?_
        rw [nI_succ, hs0]; exact lv_sub hl [0, 1, 2, 3] rfl
set_option maxHeartbeats 4000000 in
set_option maxRecDepth 100000 in
theorem c_M_count (l : Launch) {dC : Nat → ClassId} {dI : Nat → Nat → Nat} {cI cJ cZ : ClassId} {a : Nat → Nat} (hnd : (mad a).Nodup) (co lg tm rm no : Int32) (M : Nat → mGV) {g : Nat} (hg : g < 8) (x0 x1 x2 : Int32) (x3 x4 x5 : Nat → Int32) (x6 : Nat → Int64) (sz : Nat) : Met l y_M_count w_M_count ({ frames := 0, cells := 0, slots := 0, locals := 0 }) (kPre (dC, dI) vwCl (mty cI cJ cZ) [.ref (a 0), .int (nI g)] sz (mw cI cJ cZ a co lg tm rm no (va_up M g (x0, x1, x2, x3, x4, x5, x6)))) (vp_Si (fun r => r = mg_cnt x3 8)) 0 0 (fun _ => False) := by
  refine Met.ofW (cc := b_M_count) (maxL := 4) (ret := (some .int)) (by decide) rfl ?_
  intro p e s m args below meth c s₁ B hml hv
  obtain ⟨rfl, hsz, hP, hK⟩ := hv
  have hx := B.exec
  have hb := B.bytes
  have hr := B.returns
  have hts := atoms_spec (ws := w_M_count) B.pre
  have hw := fun (w : Cond) (h : w ∈ kb_B) => hts w (List.mem_cons_of_mem _ h)
  have hown : s.vm.findClass R_M = some m.cls := findClass_of_methodNamed B.named
  have hlocks := B.notSynchronized
  subst hsz
  have hl := lv_entry ([.ref (a 0), .int (nI g)]) (n := 4) (Nat.le_of_ble_eq_true rfl)
  rw [lg_entry_eq]
  generalize (lg_sl ([.ref (a 0), .int (nI g)]) ++ List.replicate (4 - (lg_sl ([.ref (a 0), .int (nI g)])).length) Slot.unset).toArray = ls at hl ⊢
  have hl : lv_has ls 4 [(0, .ref (a 0)), (1, .int (nI g))] := hl
  refine lv_iconst (v := 0) hx hb d_M_count_0 (by decide) ?_
  refine lv_istore_n (lv' := [(2, .int 0), (0, .ref (a 0)), (1, .int (nI g))]) hx hb d_M_count_1 rfl hl (by decide) rfl (fun ls hl => ?_)
  refine lv_iconst (v := 0) hx hb d_M_count_2 (by decide) ?_
  refine lv_istore_n (lv' := [(3, .int 0), (2, .int 0), (0, .ref (a 0)), (1, .int (nI g))]) hx hb d_M_count_3 rfl hl (by decide) rfl (fun ls hl => ?_)
  refine lp_M_count (x0 := x0) (x1 := x1) (x2 := x2) (x3 := x3) (x4 := x4) (x5 := x5) (x6 := x6) hnd hg hx hb hml hown hw hK hP (fun ls hl => ?_) 8 0 ls rfl (lv_sub hl [0, 1, 2, 3] rfl)
  refine lv_iload_n hx hb d_M_count_38 rfl (lv_at hl 1 rfl) ?_
  exact W.iret (v := (mg_cnt x3 8)) hx hb hr (fun t ht hW => ⟨_, rfl, by first | (simp only []; done) | (simp []; done), ht⟩) (fun q h => by cases h) d_M_count_39
set_option maxHeartbeats 4000000 in
set_option maxRecDepth 100000 in
theorem lp_M_joinedOf {p : Program} {l : Launch} {e : Env} {s : State} {m : MethodId} {args : Array Value} {below : List Frame} {meth : Method} {c : Code} {Q : State → Prop} {dC : Nat → ClassId} {dI : Nat → Nat → Nat} {cI cJ cZ : ClassId} {a : Nat → Nat} (hnd : (mad a).Nodup) {co lg tm rm no : Int32} {M : Nat → mGV} {g : Nat} (hg : g < 8) {x0 x1 x2 : Int32} {x3 x4 x5 : Nat → Int32} {x6 : Nat → Int64} {H : Heap} {locs : List Loc} (hx : p.tables.exec = Jvm.exec) (hb : c.code = b_M_joinedOf) (hml : c.maxLocals = 4) (hown : s.vm.findClass R_M = some m.cls) (hw : ∀ w ∈ kb_B, w.before args s = true) (hK : va_K (dC, dI) vwCl (mty cI cJ cZ) s)  (hP : va_P (dC, dI) vwCl (mw cI cJ cZ a co lg tm rm no (va_up M g (x0, x1, x2, x3, x4, x5, x6))) H)
    (kk : ∀ ls : Array Slot, lv_has ls 4 [(3, .int (nI 8)), (2, .int (mg_jn x3 x4 8)), (0, .ref (a 0)), (1, .int (nI g))] → W p l e (headSpec w_M_joinedOf ({ frames := 0, cells := 0, slots := 0, locals := 0 })).room s m args below meth c H locs 0 0 Q (F0 m 52 ls [])) :
    ∀ (k i : Nat) (ls : Array Slot), i + k = 8 → lv_has ls 4 [(3, .int (nI i)), (2, .int (mg_jn x3 x4 i)), (0, .ref (a 0)), (1, .int (nI g))] → W p l e (headSpec w_M_joinedOf ({ frames := 0, cells := 0, slots := 0, locals := 0 })).room s m args below meth c H locs 0 0 Q (F0 m 4 ls []) := by
  intro k
  induction k with
  | zero =>
    intro i ls hi hl
    have hi8 : i = 8 := by omega
    subst hi8
    refine lv_iload_n hx hb d_M_joinedOf_4 rfl (lv_at hl 0 rfl) ?_
    refine lv_bipush (v := 8) hx hb d_M_joinedOf_5 (by decide) ?_
    refine lv_icmp_ge (tgt := 52) hx hb d_M_joinedOf_7 (by decide) (fun c_1 => ?_) (fun c_1 => ?_)
    · exact kk ls hl
    · exact absurd (nI_le (Nat.le_refl 8) (by decide)) c_1
  | succ k ih =>
    intro i ls hi hl
    refine lv_iload_n hx hb d_M_joinedOf_4 rfl (lv_at hl 0 rfl) ?_
    refine lv_bipush (v := 8) hx hb d_M_joinedOf_5 (by decide) ?_
    refine lv_icmp_ge (tgt := 52) hx hb d_M_joinedOf_7 (by decide) (fun c_1 => ?_) (fun c_1 => ?_)
    · exact absurd c_1 (nI_ge (a := i) (b := 8) (by omega) (by decide))
    · refine lv_iload_n hx hb d_M_joinedOf_10 rfl (lv_at hl 1 rfl) ?_
      refine lv_aload_n hx hb d_M_joinedOf_11 rfl (lv_at hl 2 rfl) ?_
      refine va_get (D := (dC, dI)) (ci := 3) (v := .ref (a 4)) (C := R_M) (T := F_M) (N := 12) hx hb hw i_M hown hK hP 0 rfl rfl 8 (by decide) (hw _ kb_344) (fun _ h9 => h9) rfl d_M_joinedOf_12 ?_
      refine lv_bipush (v := 8) hx hb d_M_joinedOf_15 (by decide) ?_
      refine lv_iload_n hx hb d_M_joinedOf_17 rfl (lv_at hl 3 rfl) ?_
      refine lv_imul hx hb d_M_joinedOf_18 ?_
      refine lv_iload_n hx hb d_M_joinedOf_19 rfl (lv_at hl 0 rfl) ?_
      refine lv_iadd hx hb d_M_joinedOf_20 ?_
      refine ml_me (i := i) hx hb hK hP hg (show i < 8 by omega) d_M_joinedOf_21 ?_
      refine lv_if_eq (tgt := 43) hx hb d_M_joinedOf_22 (by decide) (fun c_2 => ?_) (fun c_2 => ?_)
      · refine lv_iconst (v := 0) hx hb d_M_joinedOf_43 (by decide) ?_
        refine lv_iadd hx hb d_M_joinedOf_44 ?_
        refine lv_istore_n (lv' := [(2, .int ((mg_jn x3 x4 i) + (0 : Int32))), (3, .int (nI i)), (0, .ref (a 0)), (1, .int (nI g))]) hx hb d_M_joinedOf_45 rfl hl (by decide) rfl (fun ls hl => ?_)
        refine lv_iinc (v := (nI i) + 1) (lv' := [(3, .int ((nI i) + 1)), (2, .int ((mg_jn x3 x4 i) + (0 : Int32))), (0, .ref (a 0)), (1, .int (nI g))]) hx hb d_M_joinedOf_46 hl (k := 1) rfl rfl (by decide) rfl (fun ls hl => ?_)
        refine lv_goto (tgt := 4) hx hb d_M_joinedOf_49 (by decide) ?_
        have hs0 : mg_jn x3 x4 (i + 1) = (mg_jn x3 x4 i) + (0 : Int32) := by simp only [mg_jn, if_pos c_2]
        refine ih (i + 1) ls (by omega) ?_
        rw [nI_succ, hs0]; exact lv_sub hl [0, 1, 2, 3] rfl
      · refine lv_aload_n hx hb d_M_joinedOf_25 rfl (lv_at hl 2 rfl) ?_
        refine va_get (D := (dC, dI)) (ci := 3) (v := .ref (a 5)) (C := R_M) (T := F_M) (N := 12) hx hb hw i_M hown hK hP 0 rfl rfl 9 (by decide) (hw _ kb_345) (fun _ h9 => h9) rfl d_M_joinedOf_26 ?_
        refine lv_bipush (v := 8) hx hb d_M_joinedOf_29 (by decide) ?_
        refine lv_iload_n hx hb d_M_joinedOf_31 rfl (lv_at hl 3 rfl) ?_
        refine lv_imul hx hb d_M_joinedOf_32 ?_
        refine lv_iload_n hx hb d_M_joinedOf_33 rfl (lv_at hl 0 rfl) ?_
        refine lv_iadd hx hb d_M_joinedOf_34 ?_
        refine ml_jo (i := i) hx hb hK hP hg (show i < 8 by omega) d_M_joinedOf_35 ?_
        refine lv_if_eq (tgt := 43) hx hb d_M_joinedOf_36 (by decide) (fun c_3 => ?_) (fun c_3 => ?_)
        · refine lv_iconst (v := 0) hx hb d_M_joinedOf_43 (by decide) ?_
          refine lv_iadd hx hb d_M_joinedOf_44 ?_
          refine lv_istore_n (lv' := [(2, .int ((mg_jn x3 x4 i) + (0 : Int32))), (3, .int (nI i)), (0, .ref (a 0)), (1, .int (nI g))]) hx hb d_M_joinedOf_45 rfl hl (by decide) rfl (fun ls hl => ?_)
          refine lv_iinc (v := (nI i) + 1) (lv' := [(3, .int ((nI i) + 1)), (2, .int ((mg_jn x3 x4 i) + (0 : Int32))), (0, .ref (a 0)), (1, .int (nI g))]) hx hb d_M_joinedOf_46 hl (k := 1) rfl rfl (by decide) rfl (fun ls hl => ?_)
          refine lv_goto (tgt := 4) hx hb d_M_joinedOf_49 (by decide) ?_
          have hs0 : mg_jn x3 x4 (i + 1) = (mg_jn x3 x4 i) + (0 : Int32) := by simp only [mg_jn, if_neg c_2, if_pos c_3]
          refine ih (i + 1) ls (by omega) ?_
          rw [nI_succ, hs0]; exact lv_sub hl [0, 1, 2, 3] rfl
        · refine lv_iconst (v := 1) hx hb d_M_joinedOf_39 (by decide) ?_
          refine lv_goto (tgt := 44) hx hb d_M_joinedOf_40 (by decide) ?_
          refine lv_iadd hx hb d_M_joinedOf_44 ?_
          refine lv_istore_n (lv' := [(2, .int ((mg_jn x3 x4 i) + (1 : Int32))), (3, .int (nI i)), (0, .ref (a 0)), (1, .int (nI g))]) hx hb d_M_joinedOf_45 rfl hl (by decide) rfl (fun ls hl => ?_)
          refine lv_iinc (v := (nI i) + 1) (lv' := [(3, .int ((nI i) + 1)), (2, .int ((mg_jn x3 x4 i) + (1 : Int32))), (0, .ref (a 0)), (1, .int (nI g))]) hx hb d_M_joinedOf_46 hl (k := 1) rfl rfl (by decide) rfl (fun ls hl => ?_)
          refine lv_goto (tgt := 4) hx hb d_M_joinedOf_49 (by decide) ?_
          have hs0 : mg_jn x3 x4 (i + 1) = (mg_jn x3 x4 i) + (1 : Int32) := by simp only [mg_jn, if_neg c_2, if_neg c_3]
          refine ih (i + 1) ls (by omega) ?_
          rw [nI_succ, hs0]; exact lv_sub hl [0, 1, 2, 3] rfl
set_option maxHeartbeats 4000000 in
set_option maxRecDepth 100000 in
theorem c_M_joinedOf (l : Launch) {dC : Nat → ClassId} {dI : Nat → Nat → Nat} {cI cJ cZ : ClassId} {a : Nat → Nat} (hnd : (mad a).Nodup) (co lg tm rm no : Int32) (M : Nat → mGV) {g : Nat} (hg : g < 8) (x0 x1 x2 : Int32) (x3 x4 x5 : Nat → Int32) (x6 : Nat → Int64) (sz : Nat) : Met l y_M_joinedOf w_M_joinedOf ({ frames := 0, cells := 0, slots := 0, locals := 0 }) (kPre (dC, dI) vwCl (mty cI cJ cZ) [.ref (a 0), .int (nI g)] sz (mw cI cJ cZ a co lg tm rm no (va_up M g (x0, x1, x2, x3, x4, x5, x6)))) (vp_Si (fun r => r = mg_jn x3 x4 8)) 0 0 (fun _ => False) := by
  refine Met.ofW (cc := b_M_joinedOf) (maxL := 4) (ret := (some .int)) (by decide) rfl ?_
  intro p e s m args below meth c s₁ B hml hv
  obtain ⟨rfl, hsz, hP, hK⟩ := hv
  have hx := B.exec
  have hb := B.bytes
  have hr := B.returns
  have hts := atoms_spec (ws := w_M_joinedOf) B.pre
  have hw := fun (w : Cond) (h : w ∈ kb_B) => hts w (List.mem_cons_of_mem _ h)
  have hown : s.vm.findClass R_M = some m.cls := findClass_of_methodNamed B.named
  have hlocks := B.notSynchronized
  subst hsz
  have hl := lv_entry ([.ref (a 0), .int (nI g)]) (n := 4) (Nat.le_of_ble_eq_true rfl)
  rw [lg_entry_eq]
  generalize (lg_sl ([.ref (a 0), .int (nI g)]) ++ List.replicate (4 - (lg_sl ([.ref (a 0), .int (nI g)])).length) Slot.unset).toArray = ls at hl ⊢
  have hl : lv_has ls 4 [(0, .ref (a 0)), (1, .int (nI g))] := hl
  refine lv_iconst (v := 0) hx hb d_M_joinedOf_0 (by decide) ?_
  refine lv_istore_n (lv' := [(2, .int 0), (0, .ref (a 0)), (1, .int (nI g))]) hx hb d_M_joinedOf_1 rfl hl (by decide) rfl (fun ls hl => ?_)
  refine lv_iconst (v := 0) hx hb d_M_joinedOf_2 (by decide) ?_
  refine lv_istore_n (lv' := [(3, .int 0), (2, .int 0), (0, .ref (a 0)), (1, .int (nI g))]) hx hb d_M_joinedOf_3 rfl hl (by decide) rfl (fun ls hl => ?_)
  refine lp_M_joinedOf (x0 := x0) (x1 := x1) (x2 := x2) (x3 := x3) (x4 := x4) (x5 := x5) (x6 := x6) hnd hg hx hb hml hown hw hK hP (fun ls hl => ?_) 8 0 ls rfl (lv_sub hl [0, 1, 2, 3] rfl)
  refine lv_iload_n hx hb d_M_joinedOf_52 rfl (lv_at hl 1 rfl) ?_
  exact W.iret (v := (mg_jn x3 x4 8)) hx hb hr (fun t ht hW => ⟨_, rfl, by first | (simp only []; done) | (simp []; done), ht⟩) (fun q h => by cases h) d_M_joinedOf_53
set_option maxHeartbeats 4000000 in
set_option maxRecDepth 100000 in
theorem lp_M_mixes {p : Program} {l : Launch} {e : Env} {s : State} {m : MethodId} {args : Array Value} {below : List Frame} {meth : Method} {c : Code} {Q : State → Prop} {dC : Nat → ClassId} {dI : Nat → Nat → Nat} {cI cJ cZ : ClassId} {a : Nat → Nat} (hnd : (mad a).Nodup) {co lg tm rm no : Int32} {M : Nat → mGV} {g : Nat} (hg : g < 8) {x0 x1 x2 : Int32} {x3 x4 x5 : Nat → Int32} {x6 : Nat → Int64} {A : Nat → Prop} (hx : p.tables.exec = Jvm.exec) (hb : c.code = b_M_mixes) (hml : c.maxLocals = 3) (hown : s.vm.findClass R_M = some m.cls) (hw : ∀ w ∈ kb_B, w.before args s = true) (hK : va_K (dC, dI) vwCl (mty cI cJ cZ) s) (hA : ∀ q : Nat, s.heap.size ≤ q → A q) (hAL : ∀ q ∈ mad a, A q) 
    (kk : ∀ (H : Heap) (locs : List Loc) (ls : Array Slot), va_P (dC, dI) vwCl (mw cI cJ cZ a co lg tm rm no (va_up M g (1, x1, tm + 20, x3, mz x4 8, x5, x6))) H → va_S A s.heap H locs → lv_has ls 3 [(2, .int (nI 8)), (0, .ref (a 0)), (1, .int (nI g))] → W p l e (headSpec w_M_mixes ({ frames := 0, cells := 0, slots := 0, locals := 0 })).room s m args below meth c H locs 0 0 Q (F0 m 46 ls [])) :
    ∀ (k i : Nat) (H : Heap) (locs : List Loc) (ls : Array Slot), i + k = 8 → va_P (dC, dI) vwCl (mw cI cJ cZ a co lg tm rm no (va_up M g (1, x1, tm + 20, x3, mz x4 i, x5, x6))) H → va_S A s.heap H locs → lv_has ls 3 [(2, .int (nI i)), (0, .ref (a 0)), (1, .int (nI g))] → W p l e (headSpec w_M_mixes ({ frames := 0, cells := 0, slots := 0, locals := 0 })).room s m args below meth c H locs 0 0 Q (F0 m 22 ls []) := by
  intro k
  induction k with
  | zero =>
    intro i H locs ls hi hP hS hl
    have hi8 : i = 8 := by omega
    subst hi8
    refine lv_iload_n hx hb d_M_mixes_22 rfl (lv_at hl 0 rfl) ?_
    refine lv_bipush (v := 8) hx hb d_M_mixes_23 (by decide) ?_
    refine lv_icmp_ge (tgt := 46) hx hb d_M_mixes_25 (by decide) (fun c_1 => ?_) (fun c_1 => ?_)
    · exact kk H locs ls hP hS hl
    · exact absurd (nI_le (Nat.le_refl 8) (by decide)) c_1
  | succ k ih =>
    intro i H locs ls hi hP hS hl
    refine lv_iload_n hx hb d_M_mixes_22 rfl (lv_at hl 0 rfl) ?_
    refine lv_bipush (v := 8) hx hb d_M_mixes_23 (by decide) ?_
    refine lv_icmp_ge (tgt := 46) hx hb d_M_mixes_25 (by decide) (fun c_1 => ?_) (fun c_1 => ?_)
    · exact absurd c_1 (nI_ge (a := i) (b := 8) (by omega) (by decide))
    · refine lv_aload_n hx hb d_M_mixes_28 rfl (lv_at hl 1 rfl) ?_
      refine va_get (D := (dC, dI)) (ci := 3) (v := .ref (a 5)) (C := R_M) (T := F_M) (N := 12) hx hb hw i_M hown hK hP 0 rfl rfl 9 (by decide) (hw _ kb_345) (fun _ h9 => h9) rfl d_M_mixes_29 ?_
      refine lv_bipush (v := 8) hx hb d_M_mixes_32 (by decide) ?_
      refine lv_iload_n hx hb d_M_mixes_34 rfl (lv_at hl 2 rfl) ?_
      refine lv_imul hx hb d_M_mixes_35 ?_
      refine lv_iload_n hx hb d_M_mixes_36 rfl (lv_at hl 0 rfl) ?_
      refine lv_iadd hx hb d_M_mixes_37 ?_
      refine lv_iconst (v := 0) hx hb d_M_mixes_38 (by decide) ?_
      refine ms_jo (i := i) (v := 0) hx hb hK hP hnd hAL hS hg (show i < 8 by omega) d_M_mixes_39 (fun H locs hP hS => ?_)
      rw [vz0] at hP
      refine lv_iinc (v := (nI i) + 1) (lv' := [(2, .int ((nI i) + 1)), (0, .ref (a 0)), (1, .int (nI g))]) hx hb d_M_mixes_40 hl (k := 0) rfl rfl (by decide) rfl (fun ls hl => ?_)
      refine lv_goto (tgt := 22) hx hb d_M_mixes_43 (by decide) ?_
      refine ih (i + 1) H locs ls (by omega) ?_ hS ?_
      · exact hP
      · rw [nI_succ]; exact lv_sub hl [0, 1, 2] rfl
set_option maxHeartbeats 4000000 in
set_option maxRecDepth 100000 in
theorem c_M_mixes (l : Launch) {dC : Nat → ClassId} {dI : Nat → Nat → Nat} {cI cJ cZ : ClassId} {a : Nat → Nat} (hnd : (mad a).Nodup) (co lg tm rm no : Int32) (M : Nat → mGV) {g : Nat} (hg : g < 8) (x0 x1 x2 : Int32) (x3 x4 x5 : Nat → Int32) (x6 : Nat → Int64) (sz : Nat) : Met l y_M_mixes w_M_mixes ({ frames := 0, cells := 0, slots := 0, locals := 0 }) (kPre (dC, dI) vwCl (mty cI cJ cZ) [.ref (a 0), .int (nI g)] sz (mw cI cJ cZ a co lg tm rm no (va_up M g (x0, x1, x2, x3, x4, x5, x6)))) (va_Qv (fun u : mDV => u = (co, lg, tm, rm, no, va_up M g (mg_mix tm (x0, x1, x2, x3, x4, x5, x6)))) (fun u t => va_P (dC, dI) vwCl (mwv cI cJ cZ a u) t.heap) (kA (mad a) sz)) 0 0 (kA (mad a) sz) := by
  refine Met.ofW (cc := b_M_mixes) (maxL := 3) (ret := none) (by decide) rfl ?_
  intro p e s m args below meth c s₁ B hml hv
  obtain ⟨rfl, hsz, hP, hK⟩ := hv
  have hx := B.exec
  have hb := B.bytes
  have hr := B.returns
  have hts := atoms_spec (ws := w_M_mixes) B.pre
  have hw := fun (w : Cond) (h : w ∈ kb_B) => hts w (List.mem_cons_of_mem _ h)
  have hown : s.vm.findClass R_M = some m.cls := findClass_of_methodNamed B.named
  have hlocks := B.notSynchronized
  subst hsz
  generalize hAe : kA (mad a) s.heap.size = A
  have hA : ∀ q : Nat, s.heap.size ≤ q → A q := fun q h => by rw [← hAe]; exact Or.inr h
  have hAL : ∀ q ∈ (mad a), A q := fun q h => by rw [← hAe]; exact Or.inl h
  have hS : va_S A s.heap s.heap [] := va_S.rf
  have hl := lv_entry ([.ref (a 0), .int (nI g)]) (n := 3) (Nat.le_of_ble_eq_true rfl)
  rw [lg_entry_eq]
  generalize (lg_sl ([.ref (a 0), .int (nI g)]) ++ List.replicate (3 - (lg_sl ([.ref (a 0), .int (nI g)])).length) Slot.unset).toArray = ls at hl ⊢
  have hl : lv_has ls 3 [(0, .ref (a 0)), (1, .int (nI g))] := hl
  refine lv_aload_n hx hb d_M_mixes_0 rfl (lv_at hl 0 rfl) ?_
  refine va_get (D := (dC, dI)) (ci := 3) (v := .ref (a 1)) (C := R_M) (T := F_M) (N := 12) hx hb hw i_M hown hK hP 0 rfl rfl 5 (by decide) (hw _ kb_341) (fun _ h9 => h9) rfl d_M_mixes_1 ?_
  refine lv_iload_n hx hb d_M_mixes_4 rfl (lv_at hl 1 rfl) ?_
  refine lv_iconst (v := 1) hx hb d_M_mixes_5 (by decide) ?_
  refine ms_st (v := 1) hx hb hK hP hnd hAL hS hg d_M_mixes_6 (fun H locs hP hS => ?_)
  refine lv_aload_n hx hb d_M_mixes_7 rfl (lv_at hl 0 rfl) ?_
  refine va_get (D := (dC, dI)) (ci := 3) (v := .ref (a 3)) (C := R_M) (T := F_M) (N := 12) hx hb hw i_M hown hK hP 0 rfl rfl 7 (by decide) (hw _ kb_343) (fun _ h9 => h9) rfl d_M_mixes_8 ?_
  refine lv_iload_n hx hb d_M_mixes_11 rfl (lv_at hl 1 rfl) ?_
  refine lv_aload_n hx hb d_M_mixes_12 rfl (lv_at hl 0 rfl) ?_
  refine va_get (D := (dC, dI)) (ci := 3) (v := .int tm) (C := R_M) (T := F_M) (N := 12) hx hb hw i_M hown hK hP 0 rfl rfl 2 (by decide) (hw _ kb_338) (fun _ h9 => h9) rfl d_M_mixes_13 ?_
  refine lv_bipush (v := 20) hx hb d_M_mixes_16 (by decide) ?_
  refine lv_iadd hx hb d_M_mixes_18 ?_
  refine ms_li (v := tm + (20 : Int32)) hx hb hK hP hnd hAL hS hg d_M_mixes_19 (fun H locs hP hS => ?_)
  refine lv_iconst (v := 0) hx hb d_M_mixes_20 (by decide) ?_
  refine lv_istore_n (lv' := [(2, .int 0), (0, .ref (a 0)), (1, .int (nI g))]) hx hb d_M_mixes_21 rfl hl (by decide) rfl (fun ls hl => ?_)
  refine lp_M_mixes (x0 := x0) (x1 := x1) (x2 := x2) (x3 := x3) (x4 := x4) (x5 := x5) (x6 := x6) hnd hg hx hb hml hown hw hK hA hAL (fun H locs ls hP hS hl => ?_) 8 0 _ _ ls rfl hP hS (lv_sub hl [0, 1, 2] rfl)
  exact W.vret hx hb hr (fun t ht hW => ⟨⟨(co, lg, tm, rm, no, (va_up M g (1, x1, tm + 20, x3, mz x4 8, x5, x6))), rfl, by first | (simp only [mg_mix]; done) | (simp [mg_mix]; done), by show va_P _ _ _ t.heap; rw [ht]; exact hP⟩, hS.F ht⟩) hS.2.2 d_M_mixes_46
set_option maxHeartbeats 4000000 in
set_option maxRecDepth 100000 in
theorem lp_M_empties {p : Program} {l : Launch} {e : Env} {s : State} {m : MethodId} {args : Array Value} {below : List Frame} {meth : Method} {c : Code} {Q : State → Prop} {dC : Nat → ClassId} {dI : Nat → Nat → Nat} {cI cJ cZ : ClassId} {a : Nat → Nat} (hnd : (mad a).Nodup) {co lg tm rm no : Int32} {M : Nat → mGV} {g : Nat} (hg : g < 8) {x0 x1 x2 : Int32} {x3 x4 x5 : Nat → Int32} {x6 : Nat → Int64} {A : Nat → Prop} (hx : p.tables.exec = Jvm.exec) (hb : c.code = b_M_empties) (hml : c.maxLocals = 3) (hown : s.vm.findClass R_M = some m.cls) (hw : ∀ w ∈ kb_B, w.before args s = true) (hK : va_K (dC, dI) vwCl (mty cI cJ cZ) s) (hA : ∀ q : Nat, s.heap.size ≤ q → A q) (hAL : ∀ q ∈ mad a, A q) 
    (kk : ∀ (H : Heap) (locs : List Loc) (ls : Array Slot), va_P (dC, dI) vwCl (mw cI cJ cZ a co lg tm rm no (va_up M g (0, x1, x2, mz x3 8, mz x4 8, x5, x6))) H → va_S A s.heap H locs → lv_has ls 3 [(2, .int (nI 8)), (0, .ref (a 0)), (1, .int (nI g))] → W p l e (headSpec w_M_empties ({ frames := 0, cells := 0, slots := 0, locals := 0 })).room s m args below meth c H locs 0 0 Q (F0 m 45 ls [])) :
    ∀ (k i : Nat) (H : Heap) (locs : List Loc) (ls : Array Slot), i + k = 8 → va_P (dC, dI) vwCl (mw cI cJ cZ a co lg tm rm no (va_up M g (0, x1, x2, mz x3 i, mz x4 i, x5, x6))) H → va_S A s.heap H locs → lv_has ls 3 [(2, .int (nI i)), (0, .ref (a 0)), (1, .int (nI g))] → W p l e (headSpec w_M_empties ({ frames := 0, cells := 0, slots := 0, locals := 0 })).room s m args below meth c H locs 0 0 Q (F0 m 9 ls []) := by
  intro k
  induction k with
  | zero =>
    intro i H locs ls hi hP hS hl
    have hi8 : i = 8 := by omega
    subst hi8
    refine lv_iload_n hx hb d_M_empties_9 rfl (lv_at hl 0 rfl) ?_
    refine lv_bipush (v := 8) hx hb d_M_empties_10 (by decide) ?_
    refine lv_icmp_ge (tgt := 45) hx hb d_M_empties_12 (by decide) (fun c_1 => ?_) (fun c_1 => ?_)
    · exact kk H locs ls hP hS hl
    · exact absurd (nI_le (Nat.le_refl 8) (by decide)) c_1
  | succ k ih =>
    intro i H locs ls hi hP hS hl
    refine lv_iload_n hx hb d_M_empties_9 rfl (lv_at hl 0 rfl) ?_
    refine lv_bipush (v := 8) hx hb d_M_empties_10 (by decide) ?_
    refine lv_icmp_ge (tgt := 45) hx hb d_M_empties_12 (by decide) (fun c_1 => ?_) (fun c_1 => ?_)
    · exact absurd c_1 (nI_ge (a := i) (b := 8) (by omega) (by decide))
    · refine lv_aload_n hx hb d_M_empties_15 rfl (lv_at hl 1 rfl) ?_
      refine va_get (D := (dC, dI)) (ci := 3) (v := .ref (a 4)) (C := R_M) (T := F_M) (N := 12) hx hb hw i_M hown hK hP 0 rfl rfl 8 (by decide) (hw _ kb_344) (fun _ h9 => h9) rfl d_M_empties_16 ?_
      refine lv_bipush (v := 8) hx hb d_M_empties_19 (by decide) ?_
      refine lv_iload_n hx hb d_M_empties_21 rfl (lv_at hl 2 rfl) ?_
      refine lv_imul hx hb d_M_empties_22 ?_
      refine lv_iload_n hx hb d_M_empties_23 rfl (lv_at hl 0 rfl) ?_
      refine lv_iadd hx hb d_M_empties_24 ?_
      refine lv_iconst (v := 0) hx hb d_M_empties_25 (by decide) ?_
      refine ms_me (i := i) (v := 0) hx hb hK hP hnd hAL hS hg (show i < 8 by omega) d_M_empties_26 (fun H locs hP hS => ?_)
      rw [vz0] at hP
      refine lv_aload_n hx hb d_M_empties_27 rfl (lv_at hl 1 rfl) ?_
      refine va_get (D := (dC, dI)) (ci := 3) (v := .ref (a 5)) (C := R_M) (T := F_M) (N := 12) hx hb hw i_M hown hK hP 0 rfl rfl 9 (by decide) (hw _ kb_345) (fun _ h9 => h9) rfl d_M_empties_28 ?_
      refine lv_bipush (v := 8) hx hb d_M_empties_31 (by decide) ?_
      refine lv_iload_n hx hb d_M_empties_33 rfl (lv_at hl 2 rfl) ?_
      refine lv_imul hx hb d_M_empties_34 ?_
      refine lv_iload_n hx hb d_M_empties_35 rfl (lv_at hl 0 rfl) ?_
      refine lv_iadd hx hb d_M_empties_36 ?_
      refine lv_iconst (v := 0) hx hb d_M_empties_37 (by decide) ?_
      refine ms_jo (i := i) (v := 0) hx hb hK hP hnd hAL hS hg (show i < 8 by omega) d_M_empties_38 (fun H locs hP hS => ?_)
      rw [vz0] at hP
      refine lv_iinc (v := (nI i) + 1) (lv' := [(2, .int ((nI i) + 1)), (0, .ref (a 0)), (1, .int (nI g))]) hx hb d_M_empties_39 hl (k := 0) rfl rfl (by decide) rfl (fun ls hl => ?_)
      refine lv_goto (tgt := 9) hx hb d_M_empties_42 (by decide) ?_
      refine ih (i + 1) H locs ls (by omega) ?_ hS ?_
      · exact hP
      · rw [nI_succ]; exact lv_sub hl [0, 1, 2] rfl
set_option maxHeartbeats 4000000 in
set_option maxRecDepth 100000 in
theorem c_M_empties (l : Launch) {dC : Nat → ClassId} {dI : Nat → Nat → Nat} {cI cJ cZ : ClassId} {a : Nat → Nat} (hnd : (mad a).Nodup) (co lg tm rm no : Int32) (M : Nat → mGV) {g : Nat} (hg : g < 8) (x0 x1 x2 : Int32) (x3 x4 x5 : Nat → Int32) (x6 : Nat → Int64) (sz : Nat) : Met l y_M_empties w_M_empties ({ frames := 0, cells := 0, slots := 0, locals := 0 }) (kPre (dC, dI) vwCl (mty cI cJ cZ) [.ref (a 0), .int (nI g)] sz (mw cI cJ cZ a co lg tm rm no (va_up M g (x0, x1, x2, x3, x4, x5, x6)))) (va_Qv (fun u : mDV => u = (co, lg, tm, rm, no, va_up M g (mg_emp (x0, x1, x2, x3, x4, x5, x6)))) (fun u t => va_P (dC, dI) vwCl (mwv cI cJ cZ a u) t.heap) (kA (mad a) sz)) 0 0 (kA (mad a) sz) := by
  refine Met.ofW (cc := b_M_empties) (maxL := 3) (ret := none) (by decide) rfl ?_
  intro p e s m args below meth c s₁ B hml hv
  obtain ⟨rfl, hsz, hP, hK⟩ := hv
  have hx := B.exec
  have hb := B.bytes
  have hr := B.returns
  have hts := atoms_spec (ws := w_M_empties) B.pre
  have hw := fun (w : Cond) (h : w ∈ kb_B) => hts w (List.mem_cons_of_mem _ h)
  have hown : s.vm.findClass R_M = some m.cls := findClass_of_methodNamed B.named
  have hlocks := B.notSynchronized
  subst hsz
  generalize hAe : kA (mad a) s.heap.size = A
  have hA : ∀ q : Nat, s.heap.size ≤ q → A q := fun q h => by rw [← hAe]; exact Or.inr h
  have hAL : ∀ q ∈ (mad a), A q := fun q h => by rw [← hAe]; exact Or.inl h
  have hS : va_S A s.heap s.heap [] := va_S.rf
  have hl := lv_entry ([.ref (a 0), .int (nI g)]) (n := 3) (Nat.le_of_ble_eq_true rfl)
  rw [lg_entry_eq]
  generalize (lg_sl ([.ref (a 0), .int (nI g)]) ++ List.replicate (3 - (lg_sl ([.ref (a 0), .int (nI g)])).length) Slot.unset).toArray = ls at hl ⊢
  have hl : lv_has ls 3 [(0, .ref (a 0)), (1, .int (nI g))] := hl
  refine lv_aload_n hx hb d_M_empties_0 rfl (lv_at hl 0 rfl) ?_
  refine va_get (D := (dC, dI)) (ci := 3) (v := .ref (a 1)) (C := R_M) (T := F_M) (N := 12) hx hb hw i_M hown hK hP 0 rfl rfl 5 (by decide) (hw _ kb_341) (fun _ h9 => h9) rfl d_M_empties_1 ?_
  refine lv_iload_n hx hb d_M_empties_4 rfl (lv_at hl 1 rfl) ?_
  refine lv_iconst (v := 0) hx hb d_M_empties_5 (by decide) ?_
  refine ms_st (v := 0) hx hb hK hP hnd hAL hS hg d_M_empties_6 (fun H locs hP hS => ?_)
  refine lv_iconst (v := 0) hx hb d_M_empties_7 (by decide) ?_
  refine lv_istore_n (lv' := [(2, .int 0), (0, .ref (a 0)), (1, .int (nI g))]) hx hb d_M_empties_8 rfl hl (by decide) rfl (fun ls hl => ?_)
  refine lp_M_empties (x0 := x0) (x1 := x1) (x2 := x2) (x3 := x3) (x4 := x4) (x5 := x5) (x6 := x6) hnd hg hx hb hml hown hw hK hA hAL (fun H locs ls hP hS hl => ?_) 8 0 _ _ ls rfl hP hS (lv_sub hl [0, 1, 2] rfl)
  exact W.vret hx hb hr (fun t ht hW => ⟨⟨(co, lg, tm, rm, no, (va_up M g (0, x1, x2, mz x3 8, mz x4 8, x5, x6))), rfl, by first | (simp only [mg_emp]; done) | (simp [mg_emp]; done), by show va_P _ _ _ t.heap; rw [ht]; exact hP⟩, hS.F ht⟩) hS.2.2 d_M_empties_45
set_option maxHeartbeats 4000000 in
set_option maxRecDepth 100000 in
theorem c_M_without (l : Launch) {dC : Nat → ClassId} {dI : Nat → Nat → Nat} {cI cJ cZ : ClassId} {a : Nat → Nat} (hnd : (mad a).Nodup) (co lg tm rm no : Int32) (M : Nat → mGV) {g : Nat} (hg : g < 8) (x0 x1 x2 : Int32) (x3 x4 x5 : Nat → Int32) (x6 : Nat → Int64) (sz : Nat) : Met l y_M_without w_M_without ({ frames := 1, cells := 0, slots := 0, locals := 30 }) (kPre (dC, dI) vwCl (mty cI cJ cZ) [.ref (a 0), .int (nI g)] sz (mw cI cJ cZ a co lg tm rm no (va_up M g (x0, x1, x2, x3, x4, x5, x6)))) (va_Qv (fun u : mDV => u = (co, lg, tm, rm, no, va_up M g (mg_wo tm (x0, x1, x2, x3, x4, x5, x6)))) (fun u t => va_P (dC, dI) vwCl (mwv cI cJ cZ a u) t.heap) (kA (mad a) sz)) 0 0 (kA (mad a) sz) := by
  refine Met.ofW (cc := b_M_without) (maxL := 2) (ret := none) (by decide) rfl ?_
  intro p e s m args below meth c s₁ B hml hv
  obtain ⟨rfl, hsz, hP, hK⟩ := hv
  have hx := B.exec
  have hb := B.bytes
  have hr := B.returns
  have hts := atoms_spec (ws := w_M_without) B.pre
  have hw := fun (w : Cond) (h : w ∈ kb_B) => hts w (List.mem_cons_of_mem _ h)
  have hown : s.vm.findClass R_M = some m.cls := findClass_of_methodNamed B.named
  have hlocks := B.notSynchronized
  subst hsz
  generalize hAe : kA (mad a) s.heap.size = A
  have hA : ∀ q : Nat, s.heap.size ≤ q → A q := fun q h => by rw [← hAe]; exact Or.inr h
  have hAL : ∀ q ∈ (mad a), A q := fun q h => by rw [← hAe]; exact Or.inl h
  have hS : va_S A s.heap s.heap [] := va_S.rf
  have hl := lv_entry ([.ref (a 0), .int (nI g)]) (n := 2) (Nat.le_of_ble_eq_true rfl)
  rw [lg_entry_eq]
  generalize (lg_sl ([.ref (a 0), .int (nI g)]) ++ List.replicate (2 - (lg_sl ([.ref (a 0), .int (nI g)])).length) Slot.unset).toArray = ls at hl ⊢
  have hl : lv_has ls 2 [(0, .ref (a 0)), (1, .int (nI g))] := hl
  refine lv_aload_n hx hb d_M_without_0 rfl (lv_at hl 0 rfl) ?_
  refine lv_iload_n hx hb d_M_without_1 rfl (lv_at hl 1 rfl) ?_
  refine vp_callSi (W.runV (As := [.int (nI g)]) (rest := []) ⟨hx, hb, hml, hown, hw⟩ (c_M_count l hnd co lg tm rm no M hg x0 x1 x2 x3 x4 x5 x6 _) (cwV 1 hw (kb_V kb_397 kb_399 kb_s8 kb_6 kb_400) rfl rfl rfl (by decide +kernel) ⟨Nat.le_of_ble_eq_true rfl, Nat.le_of_ble_eq_true rfl⟩) (kPV (va_recv hK hP (ci := 3) (q0 := 0) rfl rfl) hP hK) rfl rfl hl.1 rfl (lv_room (Nat.le_of_ble_eq_true rfl)) d_M_without_2 ⟨Nat.le_of_ble_eq_true rfl, Nat.le_of_ble_eq_true rfl⟩) (fun r_1 er_1 => ?_)
  subst er_1
  refine lv_if_ne (tgt := 16) hx hb d_M_without_5 (by decide) (fun c_1 => ?_) (fun c_1 => ?_)
  · refine lv_aload_n hx hb d_M_without_16 rfl (lv_at hl 0 rfl) ?_
    refine va_get (D := (dC, dI)) (ci := 3) (v := .ref (a 1)) (C := R_M) (T := F_M) (N := 12) hx hb hw i_M hown hK hP 0 rfl rfl 5 (by decide) (hw _ kb_341) (fun _ h9 => h9) rfl d_M_without_17 ?_
    refine lv_iload_n hx hb d_M_without_20 rfl (lv_at hl 1 rfl) ?_
    refine ml_st hx hb hK hP hg d_M_without_21 ?_
    refine lv_iconst (v := 2) hx hb d_M_without_22 (by decide) ?_
    refine lv_icmp_ne (tgt := 31) hx hb d_M_without_23 (by decide) (fun c_2 => ?_) (fun c_2 => ?_)
    · exact W.vret hx hb hr (fun t ht hW => ⟨⟨(co, lg, tm, rm, no, (va_up M g (x0, x1, x2, x3, x4, x5, x6))), rfl, by first | (simp only [mg_wo, mg_emp, mg_mix, if_neg c_1, if_neg c_2]; done) | (simp [mg_wo, mg_emp, mg_mix, c_1, c_2]; done), by show va_P _ _ _ t.heap; rw [ht]; exact hP⟩, hS.F ht⟩) hS.2.2 d_M_without_31
    · refine lv_aload_n hx hb d_M_without_26 rfl (lv_at hl 0 rfl) ?_
      refine lv_iload_n hx hb d_M_without_27 rfl (lv_at hl 1 rfl) ?_
      refine kc_v (Wd := mwv cI cJ cZ a) (va_runV (As := [.int (nI g)]) (rest := []) ⟨hx, hb, hml, hown, hw⟩ (c_M_mixes l hnd co lg tm rm no M hg x0 x1 x2 x3 x4 x5 x6 _) (cwV 1 hw (kb_V kb_389 kb_391 kb_s6 kb_6 kb_392) rfl rfl rfl (by decide +kernel) ⟨Nat.le_of_ble_eq_true rfl, Nat.le_of_ble_eq_true rfl⟩) (kPV (va_recv hK hP (ci := 3) (q0 := 0) rfl rfl) hP hK) rfl rfl hl.1 rfl (lv_room (Nat.le_of_ble_eq_true rfl)) d_M_without_28 ⟨Nat.le_of_ble_eq_true rfl, Nat.le_of_ble_eq_true rfl⟩) hS hA hAL (fun u_2 H locs hw9 hP _ _ hS => ?_)
      subst hw9
      have hP : va_P (dC, dI) vwCl (mw cI cJ cZ a co lg tm rm no (va_up M g (1, x1, tm + 20, x3, mz x4 8, x5, x6))) _ := hP
      exact W.vret hx hb hr (fun t ht hW => ⟨⟨(co, lg, tm, rm, no, (va_up M g (1, x1, tm + 20, x3, mz x4 8, x5, x6))), rfl, by first | (simp only [mg_wo, mg_emp, mg_mix, if_neg c_1, if_pos c_2]; done) | (simp [mg_wo, mg_emp, mg_mix, c_1, c_2]; done), by show va_P _ _ _ t.heap; rw [ht]; exact hP⟩, hS.F ht⟩) hS.2.2 d_M_without_31
  · refine lv_aload_n hx hb d_M_without_8 rfl (lv_at hl 0 rfl) ?_
    refine lv_iload_n hx hb d_M_without_9 rfl (lv_at hl 1 rfl) ?_
    refine kc_v (Wd := mwv cI cJ cZ a) (va_runV (As := [.int (nI g)]) (rest := []) ⟨hx, hb, hml, hown, hw⟩ (c_M_empties l hnd co lg tm rm no M hg x0 x1 x2 x3 x4 x5 x6 _) (cwV 1 hw (kb_V kb_405 kb_407 kb_s10 kb_6 kb_408) rfl rfl rfl (by decide +kernel) ⟨Nat.le_of_ble_eq_true rfl, Nat.le_of_ble_eq_true rfl⟩) (kPV (va_recv hK hP (ci := 3) (q0 := 0) rfl rfl) hP hK) rfl rfl hl.1 rfl (lv_room (Nat.le_of_ble_eq_true rfl)) d_M_without_10 ⟨Nat.le_of_ble_eq_true rfl, Nat.le_of_ble_eq_true rfl⟩) hS hA hAL (fun u_4 H locs hw9 hP _ _ hS => ?_)
    subst hw9
    have hP : va_P (dC, dI) vwCl (mw cI cJ cZ a co lg tm rm no (va_up M g (0, x1, x2, mz x3 8, mz x4 8, x5, x6))) _ := hP
    refine lv_goto (tgt := 31) hx hb d_M_without_13 (by decide) ?_
    exact W.vret hx hb hr (fun t ht hW => ⟨⟨(co, lg, tm, rm, no, (va_up M g (0, x1, x2, mz x3 8, mz x4 8, x5, x6))), rfl, by first | (simp only [mg_wo, mg_emp, mg_mix, if_pos c_1]; done) | (simp [mg_wo, mg_emp, mg_mix, c_1]; done), by show va_P _ _ _ t.heap; rw [ht]; exact hP⟩, hS.F ht⟩) hS.2.2 d_M_without_31
end
section
set_option maxHeartbeats 4000000 in
set_option maxRecDepth 100000 in
theorem lp_M_done {p : Program} {l : Launch} {e : Env} {s : State} {m : MethodId} {args : Array Value} {below : List Frame} {meth : Method} {c : Code} {Q : State → Prop} {dC : Nat → ClassId} {dI : Nat → Nat → Nat} {cI cJ cZ : ClassId} {a : Nat → Nat} (hnd : (mad a).Nodup) {co lg tm rm no : Int32} {M : Nat → mGV} {g : Nat} (hg : g < 8) {x0 x1 x2 : Int32} {x3 x4 x5 : Nat → Int32} {x6 : Nat → Int64} {A : Nat → Prop} (hx : p.tables.exec = Jvm.exec) (hb : c.code = b_M_mayBeDone) (hml : c.maxLocals = 5) (hown : s.vm.findClass R_M = some m.cls) (hw : ∀ w ∈ kb_B, w.before args s = true) (hK : va_K (dC, dI) vwCl (mty cI cJ cZ) s) (hA : ∀ q : Nat, s.heap.size ≤ q → A q) (hAL : ∀ q ∈ mad a, A q) 
    (kk : ∀ (H : Heap) (locs : List Loc) (ls : Array Slot), va_P (dC, dI) vwCl (mw cI cJ cZ a co lg tm rm no (va_up M g (x0, x1, x2, md x3 x4 8, x4, mt x5 tm 8, x6))) H → va_S A s.heap H locs → lv_has ls 5 [(4, .int (nI 8)), (3, .int (mg_jn x3 x4 8)), (2, .int (mg_cnt x3 8)), (0, .ref (a 0)), (1, .int (nI g))] → W p l e (headSpec w_M_mayBeDone ({ frames := 1, cells := 0, slots := 0, locals := 30 })).room s m args below meth c H locs 0 0 Q (F0 m 139 ls [])) :
    ∀ (k i : Nat) (H : Heap) (locs : List Loc) (ls : Array Slot), i + k = 8 → va_P (dC, dI) vwCl (mw cI cJ cZ a co lg tm rm no (va_up M g (x0, x1, x2, md x3 x4 i, x4, mt x5 tm i, x6))) H → va_S A s.heap H locs → lv_has ls 5 [(4, .int (nI i)), (3, .int (mg_jn x3 x4 8)), (2, .int (mg_cnt x3 8)), (0, .ref (a 0)), (1, .int (nI g))] → W p l e (headSpec w_M_mayBeDone ({ frames := 1, cells := 0, slots := 0, locals := 30 })).room s m args below meth c H locs 0 0 Q (F0 m 63 ls []) := by
  intro k
  induction k with
  | zero =>
    intro i H locs ls hi hP hS hl
    have hi8 : i = 8 := by omega
    subst hi8
    refine lv_iload hx hb d_M_mayBeDone_63 (lv_at hl 0 rfl) ?_
    refine lv_bipush (v := 8) hx hb d_M_mayBeDone_65 (by decide) ?_
    refine lv_icmp_ge (tgt := 139) hx hb d_M_mayBeDone_67 (by decide) (fun c_1 => ?_) (fun c_1 => ?_)
    · exact kk H locs ls hP hS hl
    · exact absurd (nI_le (Nat.le_refl 8) (by decide)) c_1
  | succ k ih =>
    intro i H locs ls hi hP hS hl
    refine lv_iload hx hb d_M_mayBeDone_63 (lv_at hl 0 rfl) ?_
    refine lv_bipush (v := 8) hx hb d_M_mayBeDone_65 (by decide) ?_
    refine lv_icmp_ge (tgt := 139) hx hb d_M_mayBeDone_67 (by decide) (fun c_1 => ?_) (fun c_1 => ?_)
    · exact absurd c_1 (nI_ge (a := i) (b := 8) (by omega) (by decide))
    · refine lv_aload_n hx hb d_M_mayBeDone_70 rfl (lv_at hl 3 rfl) ?_
      refine va_get (D := (dC, dI)) (ci := 3) (v := .ref (a 4)) (C := R_M) (T := F_M) (N := 12) hx hb hw i_M hown hK hP 0 rfl rfl 8 (by decide) (hw _ kb_344) (fun _ h9 => h9) rfl d_M_mayBeDone_71 ?_
      refine lv_bipush (v := 8) hx hb d_M_mayBeDone_74 (by decide) ?_
      refine lv_iload_n hx hb d_M_mayBeDone_76 rfl (lv_at hl 4 rfl) ?_
      refine lv_imul hx hb d_M_mayBeDone_77 ?_
      refine lv_iload hx hb d_M_mayBeDone_78 (lv_at hl 0 rfl) ?_
      refine lv_iadd hx hb d_M_mayBeDone_80 ?_
      refine lv_aload_n hx hb d_M_mayBeDone_81 rfl (lv_at hl 3 rfl) ?_
      refine va_get (D := (dC, dI)) (ci := 3) (v := .ref (a 4)) (C := R_M) (T := F_M) (N := 12) hx hb hw i_M hown hK hP 0 rfl rfl 8 (by decide) (hw _ kb_344) (fun _ h9 => h9) rfl d_M_mayBeDone_82 ?_
      refine lv_bipush (v := 8) hx hb d_M_mayBeDone_85 (by decide) ?_
      refine lv_iload_n hx hb d_M_mayBeDone_87 rfl (lv_at hl 4 rfl) ?_
      refine lv_imul hx hb d_M_mayBeDone_88 ?_
      refine lv_iload hx hb d_M_mayBeDone_89 (lv_at hl 0 rfl) ?_
      refine lv_iadd hx hb d_M_mayBeDone_91 ?_
      refine ml_me (i := i) hx hb hK hP hg (show i < 8 by omega) d_M_mayBeDone_92 ?_
      refine lv_if_eq (tgt := 115) hx hb d_M_mayBeDone_93 (by decide) (fun c_2 => ?_) (fun c_2 => ?_)
      · refine lv_iconst (v := 0) hx hb d_M_mayBeDone_115 (by decide) ?_
        refine ms_me (i := i) (v := 0) hx hb hK hP hnd hAL hS hg (show i < 8 by omega) d_M_mayBeDone_116 (fun H locs hP hS => ?_)
        rw [vz0] at hP
        refine lv_aload_n hx hb d_M_mayBeDone_117 rfl (lv_at hl 3 rfl) ?_
        refine va_get (D := (dC, dI)) (ci := 3) (v := .ref (a 6)) (C := R_M) (T := F_M) (N := 12) hx hb hw i_M hown hK hP 0 rfl rfl 10 (by decide) (hw _ kb_346) (fun _ h9 => h9) rfl d_M_mayBeDone_118 ?_
        refine lv_bipush (v := 8) hx hb d_M_mayBeDone_121 (by decide) ?_
        refine lv_iload_n hx hb d_M_mayBeDone_123 rfl (lv_at hl 4 rfl) ?_
        refine lv_imul hx hb d_M_mayBeDone_124 ?_
        refine lv_iload hx hb d_M_mayBeDone_125 (lv_at hl 0 rfl) ?_
        refine lv_iadd hx hb d_M_mayBeDone_127 ?_
        refine lv_aload_n hx hb d_M_mayBeDone_128 rfl (lv_at hl 3 rfl) ?_
        refine va_get (D := (dC, dI)) (ci := 3) (v := .int tm) (C := R_M) (T := F_M) (N := 12) hx hb hw i_M hown hK hP 0 rfl rfl 2 (by decide) (hw _ kb_338) (fun _ h9 => h9) rfl d_M_mayBeDone_129 ?_
        refine ms_he (i := i) (v := tm) hx hb hK hP hnd hAL hS hg (show i < 8 by omega) d_M_mayBeDone_132 (fun H locs hP hS => ?_)
        refine lv_iinc (v := (nI i) + 1) (lv' := [(4, .int ((nI i) + 1)), (3, .int (mg_jn x3 x4 8)), (2, .int (mg_cnt x3 8)), (0, .ref (a 0)), (1, .int (nI g))]) hx hb d_M_mayBeDone_133 hl (k := 0) rfl rfl (by decide) rfl (fun ls hl => ?_)
        refine lv_goto (tgt := 63) hx hb d_M_mayBeDone_136 (by decide) ?_
        have hs0 : md x3 x4 (i + 1) = upd (md x3 x4 i) i 0 := by simp only [md, if_pos c_2]
        refine ih (i + 1) H locs ls (by omega) ?_ hS ?_
        · rw [hs0]; exact hP
        · rw [nI_succ]; exact lv_sub hl [0, 1, 2, 3, 4] rfl
      · refine lv_aload_n hx hb d_M_mayBeDone_96 rfl (lv_at hl 3 rfl) ?_
        refine va_get (D := (dC, dI)) (ci := 3) (v := .ref (a 5)) (C := R_M) (T := F_M) (N := 12) hx hb hw i_M hown hK hP 0 rfl rfl 9 (by decide) (hw _ kb_345) (fun _ h9 => h9) rfl d_M_mayBeDone_97 ?_
        refine lv_bipush (v := 8) hx hb d_M_mayBeDone_100 (by decide) ?_
        refine lv_iload_n hx hb d_M_mayBeDone_102 rfl (lv_at hl 4 rfl) ?_
        refine lv_imul hx hb d_M_mayBeDone_103 ?_
        refine lv_iload hx hb d_M_mayBeDone_104 (lv_at hl 0 rfl) ?_
        refine lv_iadd hx hb d_M_mayBeDone_106 ?_
        refine ml_jo (i := i) hx hb hK hP hg (show i < 8 by omega) d_M_mayBeDone_107 ?_
        refine lv_if_eq (tgt := 115) hx hb d_M_mayBeDone_108 (by decide) (fun c_3 => ?_) (fun c_3 => ?_)
        · refine lv_iconst (v := 0) hx hb d_M_mayBeDone_115 (by decide) ?_
          refine ms_me (i := i) (v := 0) hx hb hK hP hnd hAL hS hg (show i < 8 by omega) d_M_mayBeDone_116 (fun H locs hP hS => ?_)
          rw [vz0] at hP
          refine lv_aload_n hx hb d_M_mayBeDone_117 rfl (lv_at hl 3 rfl) ?_
          refine va_get (D := (dC, dI)) (ci := 3) (v := .ref (a 6)) (C := R_M) (T := F_M) (N := 12) hx hb hw i_M hown hK hP 0 rfl rfl 10 (by decide) (hw _ kb_346) (fun _ h9 => h9) rfl d_M_mayBeDone_118 ?_
          refine lv_bipush (v := 8) hx hb d_M_mayBeDone_121 (by decide) ?_
          refine lv_iload_n hx hb d_M_mayBeDone_123 rfl (lv_at hl 4 rfl) ?_
          refine lv_imul hx hb d_M_mayBeDone_124 ?_
          refine lv_iload hx hb d_M_mayBeDone_125 (lv_at hl 0 rfl) ?_
          refine lv_iadd hx hb d_M_mayBeDone_127 ?_
          refine lv_aload_n hx hb d_M_mayBeDone_128 rfl (lv_at hl 3 rfl) ?_
          refine va_get (D := (dC, dI)) (ci := 3) (v := .int tm) (C := R_M) (T := F_M) (N := 12) hx hb hw i_M hown hK hP 0 rfl rfl 2 (by decide) (hw _ kb_338) (fun _ h9 => h9) rfl d_M_mayBeDone_129 ?_
          refine ms_he (i := i) (v := tm) hx hb hK hP hnd hAL hS hg (show i < 8 by omega) d_M_mayBeDone_132 (fun H locs hP hS => ?_)
          refine lv_iinc (v := (nI i) + 1) (lv' := [(4, .int ((nI i) + 1)), (3, .int (mg_jn x3 x4 8)), (2, .int (mg_cnt x3 8)), (0, .ref (a 0)), (1, .int (nI g))]) hx hb d_M_mayBeDone_133 hl (k := 0) rfl rfl (by decide) rfl (fun ls hl => ?_)
          refine lv_goto (tgt := 63) hx hb d_M_mayBeDone_136 (by decide) ?_
          have hs0 : md x3 x4 (i + 1) = upd (md x3 x4 i) i 0 := by simp only [md, if_neg c_2, if_pos c_3]
          refine ih (i + 1) H locs ls (by omega) ?_ hS ?_
          · rw [hs0]; exact hP
          · rw [nI_succ]; exact lv_sub hl [0, 1, 2, 3, 4] rfl
        · refine lv_iconst (v := 1) hx hb d_M_mayBeDone_111 (by decide) ?_
          refine lv_goto (tgt := 116) hx hb d_M_mayBeDone_112 (by decide) ?_
          refine ms_me (i := i) (v := 1) hx hb hK hP hnd hAL hS hg (show i < 8 by omega) d_M_mayBeDone_116 (fun H locs hP hS => ?_)
          rw [vz1] at hP
          refine lv_aload_n hx hb d_M_mayBeDone_117 rfl (lv_at hl 3 rfl) ?_
          refine va_get (D := (dC, dI)) (ci := 3) (v := .ref (a 6)) (C := R_M) (T := F_M) (N := 12) hx hb hw i_M hown hK hP 0 rfl rfl 10 (by decide) (hw _ kb_346) (fun _ h9 => h9) rfl d_M_mayBeDone_118 ?_
          refine lv_bipush (v := 8) hx hb d_M_mayBeDone_121 (by decide) ?_
          refine lv_iload_n hx hb d_M_mayBeDone_123 rfl (lv_at hl 4 rfl) ?_
          refine lv_imul hx hb d_M_mayBeDone_124 ?_
          refine lv_iload hx hb d_M_mayBeDone_125 (lv_at hl 0 rfl) ?_
          refine lv_iadd hx hb d_M_mayBeDone_127 ?_
          refine lv_aload_n hx hb d_M_mayBeDone_128 rfl (lv_at hl 3 rfl) ?_
          refine va_get (D := (dC, dI)) (ci := 3) (v := .int tm) (C := R_M) (T := F_M) (N := 12) hx hb hw i_M hown hK hP 0 rfl rfl 2 (by decide) (hw _ kb_338) (fun _ h9 => h9) rfl d_M_mayBeDone_129 ?_
          refine ms_he (i := i) (v := tm) hx hb hK hP hnd hAL hS hg (show i < 8 by omega) d_M_mayBeDone_132 (fun H locs hP hS => ?_)
          refine lv_iinc (v := (nI i) + 1) (lv' := [(4, .int ((nI i) + 1)), (3, .int (mg_jn x3 x4 8)), (2, .int (mg_cnt x3 8)), (0, .ref (a 0)), (1, .int (nI g))]) hx hb d_M_mayBeDone_133 hl (k := 0) rfl rfl (by decide) rfl (fun ls hl => ?_)
          refine lv_goto (tgt := 63) hx hb d_M_mayBeDone_136 (by decide) ?_
          have hs0 : md x3 x4 (i + 1) = upd (md x3 x4 i) i 1 := by simp only [md, if_neg c_2, if_neg c_3]
          refine ih (i + 1) H locs ls (by omega) ?_ hS ?_
          · rw [hs0]; exact hP
          · rw [nI_succ]; exact lv_sub hl [0, 1, 2, 3, 4] rfl
set_option maxHeartbeats 4000000 in
set_option maxRecDepth 100000 in
theorem c_M_mayBeDone (l : Launch) {dC : Nat → ClassId} {dI : Nat → Nat → Nat} {cI cJ cZ : ClassId} {a : Nat → Nat} (hnd : (mad a).Nodup) (co lg tm rm no : Int32) (M : Nat → mGV) {g : Nat} (hg : g < 8) (x0 x1 x2 : Int32) (x3 x4 x5 : Nat → Int32) (x6 : Nat → Int64) (sz : Nat) : Met l y_M_mayBeDone w_M_mayBeDone ({ frames := 1, cells := 0, slots := 0, locals := 30 }) (kPre (dC, dI) vwCl (mty cI cJ cZ) [.ref (a 0), .int (nI g)] sz (mw cI cJ cZ a co lg tm rm no (va_up M g (x0, x1, x2, x3, x4, x5, x6)))) (va_Qv (fun u : mDV => u = (co, lg, tm, (mg_done tm rm no (x0, x1, x2, x3, x4, x5, x6)).2.1, (mg_done tm rm no (x0, x1, x2, x3, x4, x5, x6)).2.2, va_up M g ((mg_done tm rm no (x0, x1, x2, x3, x4, x5, x6)).1))) (fun u t => va_P (dC, dI) vwCl (mwv cI cJ cZ a u) t.heap) (kA (mad a) sz)) 0 0 (kA (mad a) sz) := by
  refine Met.ofW (cc := b_M_mayBeDone) (maxL := 5) (ret := none) (by decide) rfl ?_
  intro p e s m args below meth c s₁ B hml hv
  obtain ⟨rfl, hsz, hP, hK⟩ := hv
  have hx := B.exec
  have hb := B.bytes
  have hr := B.returns
  have hts := atoms_spec (ws := w_M_mayBeDone) B.pre
  have hw := fun (w : Cond) (h : w ∈ kb_B) => hts w (List.mem_cons_of_mem _ h)
  have hown : s.vm.findClass R_M = some m.cls := findClass_of_methodNamed B.named
  have hlocks := B.notSynchronized
  subst hsz
  generalize hAe : kA (mad a) s.heap.size = A
  have hA : ∀ q : Nat, s.heap.size ≤ q → A q := fun q h => by rw [← hAe]; exact Or.inr h
  have hAL : ∀ q ∈ (mad a), A q := fun q h => by rw [← hAe]; exact Or.inl h
  have hS : va_S A s.heap s.heap [] := va_S.rf
  have hl := lv_entry ([.ref (a 0), .int (nI g)]) (n := 5) (Nat.le_of_ble_eq_true rfl)
  rw [lg_entry_eq]
  generalize (lg_sl ([.ref (a 0), .int (nI g)]) ++ List.replicate (5 - (lg_sl ([.ref (a 0), .int (nI g)])).length) Slot.unset).toArray = ls at hl ⊢
  have hl : lv_has ls 5 [(0, .ref (a 0)), (1, .int (nI g))] := hl
  refine lv_aload_n hx hb d_M_mayBeDone_0 rfl (lv_at hl 0 rfl) ?_
  refine va_get (D := (dC, dI)) (ci := 3) (v := .ref (a 1)) (C := R_M) (T := F_M) (N := 12) hx hb hw i_M hown hK hP 0 rfl rfl 5 (by decide) (hw _ kb_341) (fun _ h9 => h9) rfl d_M_mayBeDone_1 ?_
  refine lv_iload_n hx hb d_M_mayBeDone_4 rfl (lv_at hl 1 rfl) ?_
  refine ml_st hx hb hK hP hg d_M_mayBeDone_5 ?_
  refine lv_iconst (v := 1) hx hb d_M_mayBeDone_6 (by decide) ?_
  refine lv_icmp_eq (tgt := 11) hx hb d_M_mayBeDone_7 (by decide) (fun c_1 => ?_) (fun c_1 => ?_)
  · refine lv_aload_n hx hb d_M_mayBeDone_11 rfl (lv_at hl 0 rfl) ?_
    refine lv_iload_n hx hb d_M_mayBeDone_12 rfl (lv_at hl 1 rfl) ?_
    refine vp_callSi (W.runV (As := [.int (nI g)]) (rest := []) ⟨hx, hb, hml, hown, hw⟩ (c_M_count l hnd co lg tm rm no M hg x0 x1 x2 x3 x4 x5 x6 _) (cwV 1 hw (kb_V kb_397 kb_399 kb_s8 kb_6 kb_400) rfl rfl rfl (by decide +kernel) ⟨Nat.le_of_ble_eq_true rfl, Nat.le_of_ble_eq_true rfl⟩) (kPV (va_recv hK hP (ci := 3) (q0 := 0) rfl rfl) hP hK) rfl rfl hl.1 rfl (lv_room (Nat.le_of_ble_eq_true rfl)) d_M_mayBeDone_13 ⟨Nat.le_of_ble_eq_true rfl, Nat.le_of_ble_eq_true rfl⟩) (fun r_1 er_1 => ?_)
    subst er_1
    refine lv_istore_n (lv' := [(2, .int (mg_cnt x3 8)), (0, .ref (a 0)), (1, .int (nI g))]) hx hb d_M_mayBeDone_16 rfl hl (by decide) rfl (fun ls hl => ?_)
    refine lv_aload_n hx hb d_M_mayBeDone_17 rfl (lv_at hl 1 rfl) ?_
    refine lv_iload_n hx hb d_M_mayBeDone_18 rfl (lv_at hl 2 rfl) ?_
    refine vp_callSi (W.runV (As := [.int (nI g)]) (rest := []) ⟨hx, hb, hml, hown, hw⟩ (c_M_joinedOf l hnd co lg tm rm no M hg x0 x1 x2 x3 x4 x5 x6 _) (cwV 1 hw (kb_V kb_401 kb_403 kb_s9 kb_6 kb_404) rfl rfl rfl (by decide +kernel) ⟨Nat.le_of_ble_eq_true rfl, Nat.le_of_ble_eq_true rfl⟩) (kPV (va_recv hK hP (ci := 3) (q0 := 0) rfl rfl) hP hK) rfl rfl hl.1 rfl (lv_room (Nat.le_of_ble_eq_true rfl)) d_M_mayBeDone_19 ⟨Nat.le_of_ble_eq_true rfl, Nat.le_of_ble_eq_true rfl⟩) (fun r_2 er_2 => ?_)
    subst er_2
    refine lv_istore_n (lv' := [(3, .int (mg_jn x3 x4 8)), (2, .int (mg_cnt x3 8)), (0, .ref (a 0)), (1, .int (nI g))]) hx hb d_M_mayBeDone_22 rfl hl (by decide) rfl (fun ls hl => ?_)
    refine lv_iload_n hx hb d_M_mayBeDone_23 rfl (lv_at hl 0 rfl) ?_
    refine lv_iload_n hx hb d_M_mayBeDone_24 rfl (lv_at hl 1 rfl) ?_
    refine lv_icmp_ge (tgt := 42) hx hb d_M_mayBeDone_25 (by decide) (fun c_2 => ?_) (fun c_2 => ?_)
    · refine lv_iload_n hx hb d_M_mayBeDone_42 rfl (lv_at hl 0 rfl) ?_
      refine lv_if_ne (tgt := 52) hx hb d_M_mayBeDone_43 (by decide) (fun c_3 => ?_) (fun c_3 => ?_)
      · refine lv_aload_n hx hb d_M_mayBeDone_52 rfl (lv_at hl 2 rfl) ?_
        refine kc_i (Wd := mwv cI cJ cZ a) (va_runV (As := []) (rest := []) ⟨hx, hb, hml, hown, hw⟩ (c_M_takesNote l hnd co lg tm rm no (va_up M g (x0, x1, x2, x3, x4, x5, x6)) _) (cwV 0 hw (kb_V kb_409 kb_411 kb_s11 kb_6 kb_412) rfl rfl rfl (by decide +kernel) ⟨Nat.le_of_ble_eq_true rfl, Nat.le_of_ble_eq_true rfl⟩) (kPV (va_recv hK hP (ci := 3) (q0 := 0) rfl rfl) hP hK) rfl rfl hl.1 rfl (lv_room (Nat.le_of_ble_eq_true rfl)) d_M_mayBeDone_53 ⟨Nat.le_of_ble_eq_true rfl, Nat.le_of_ble_eq_true rfl⟩) hS hA hAL (fun r_4 u_3 H locs hw9 hP _ _ hS => ?_)
        obtain ⟨rfl, rfl⟩ := hw9
        generalize hq_5 : mn_take rm no = z_5 at hP ⊢
        obtain ⟨r_5, rm_5, no_5⟩ := z_5
        have hP : va_P (dC, dI) vwCl (mw cI cJ cZ a co lg tm rm_5 no_5 (va_up M g (x0, x1, x2, x3, x4, x5, x6))) _ := hP
        refine lv_if_ne (tgt := 60) hx hb d_M_mayBeDone_56 (by decide) (fun c_4 => ?_) (fun c_4 => ?_)
        · refine lv_iconst (v := 0) hx hb d_M_mayBeDone_60 (by decide) ?_
          refine lv_istore (lv' := [(4, .int 0), (3, .int (mg_jn x3 x4 8)), (2, .int (mg_cnt x3 8)), (0, .ref (a 0)), (1, .int (nI g))]) hx hb d_M_mayBeDone_61 hl (by decide) rfl (fun ls hl => ?_)
          refine lp_M_done (x0 := x0) (x1 := x1) (x2 := x2) (x3 := x3) (x4 := x4) (x5 := x5) (x6 := x6) hnd hg hx hb hml hown hw hK hA hAL (fun H locs ls hP hS hl => ?_) 8 0 _ _ ls rfl hP hS (lv_sub hl [0, 1, 2, 3, 4] rfl)
          refine lv_aload_n hx hb d_M_mayBeDone_139 rfl (lv_at hl 3 rfl) ?_
          refine va_get (D := (dC, dI)) (ci := 3) (v := .ref (a 2)) (C := R_M) (T := F_M) (N := 12) hx hb hw i_M hown hK hP 0 rfl rfl 6 (by decide) (hw _ kb_342) (fun _ h9 => h9) rfl d_M_mayBeDone_140 ?_
          refine lv_iload_n hx hb d_M_mayBeDone_143 rfl (lv_at hl 4 rfl) ?_
          refine lv_dup2_11 hx hb d_M_mayBeDone_144 rfl rfl ?_
          refine ml_ge hx hb hK hP hg d_M_mayBeDone_145 ?_
          refine lv_iconst (v := 1) hx hb d_M_mayBeDone_146 (by decide) ?_
          refine lv_iadd hx hb d_M_mayBeDone_147 ?_
          refine ms_ge (v := x1 + (1 : Int32)) hx hb hK hP hnd hAL hS hg d_M_mayBeDone_148 (fun H locs hP hS => ?_)
          refine lv_aload_n hx hb d_M_mayBeDone_149 rfl (lv_at hl 3 rfl) ?_
          refine va_get (D := (dC, dI)) (ci := 3) (v := .ref (a 1)) (C := R_M) (T := F_M) (N := 12) hx hb hw i_M hown hK hP 0 rfl rfl 5 (by decide) (hw _ kb_341) (fun _ h9 => h9) rfl d_M_mayBeDone_150 ?_
          refine lv_iload_n hx hb d_M_mayBeDone_153 rfl (lv_at hl 4 rfl) ?_
          refine lv_iconst (v := 2) hx hb d_M_mayBeDone_154 (by decide) ?_
          refine ms_st (v := 2) hx hb hK hP hnd hAL hS hg d_M_mayBeDone_155 (fun H locs hP hS => ?_)
          exact W.vret hx hb hr (fun t ht hW => ⟨⟨(co, lg, tm, rm_5, no_5, (va_up M g (2, x1 + (1 : Int32), x2, md x3 x4 8, x4, mt x5 tm 8, x6))), rfl, by first | (simp only [mg_done, mg_go, mg_emp, mg_set, if_pos c_1, if_pos c_2, if_neg c_3, hq_5, if_neg c_4]; done) | (simp [mg_done, mg_go, mg_emp, mg_set, c_1, c_2, c_3, hq_5, c_4]; done), by show va_P _ _ _ t.heap; rw [ht]; exact hP⟩, hS.F ht⟩) hS.2.2 d_M_mayBeDone_156
        · exact W.vret hx hb hr (fun t ht hW => ⟨⟨(co, lg, tm, rm_5, no_5, (va_up M g (x0, x1, x2, x3, x4, x5, x6))), rfl, by first | (simp only [mg_done, mg_go, mg_emp, mg_set, if_pos c_1, if_pos c_2, if_neg c_3, hq_5, if_pos c_4]; done) | (simp [mg_done, mg_go, mg_emp, mg_set, c_1, c_2, c_3, hq_5, c_4]; done), by show va_P _ _ _ t.heap; rw [ht]; exact hP⟩, hS.F ht⟩) hS.2.2 d_M_mayBeDone_59
      · refine lv_aload_n hx hb d_M_mayBeDone_46 rfl (lv_at hl 2 rfl) ?_
        refine lv_iload_n hx hb d_M_mayBeDone_47 rfl (lv_at hl 3 rfl) ?_
        refine kc_v (Wd := mwv cI cJ cZ a) (va_runV (As := [.int (nI g)]) (rest := []) ⟨hx, hb, hml, hown, hw⟩ (c_M_empties l hnd co lg tm rm no M hg x0 x1 x2 x3 x4 x5 x6 _) (cwV 1 hw (kb_V kb_405 kb_407 kb_s10 kb_6 kb_408) rfl rfl rfl (by decide +kernel) ⟨Nat.le_of_ble_eq_true rfl, Nat.le_of_ble_eq_true rfl⟩) (kPV (va_recv hK hP (ci := 3) (q0 := 0) rfl rfl) hP hK) rfl rfl hl.1 rfl (lv_room (Nat.le_of_ble_eq_true rfl)) d_M_mayBeDone_48 ⟨Nat.le_of_ble_eq_true rfl, Nat.le_of_ble_eq_true rfl⟩) hS hA hAL (fun u_6 H locs hw9 hP _ _ hS => ?_)
        subst hw9
        have hP : va_P (dC, dI) vwCl (mw cI cJ cZ a co lg tm rm no (va_up M g (0, x1, x2, mz x3 8, mz x4 8, x5, x6))) _ := hP
        exact W.vret hx hb hr (fun t ht hW => ⟨⟨(co, lg, tm, rm, no, (va_up M g (0, x1, x2, mz x3 8, mz x4 8, x5, x6))), rfl, by first | (simp only [mg_done, mg_go, mg_emp, mg_set, if_pos c_1, if_pos c_2, if_pos c_3]; done) | (simp [mg_done, mg_go, mg_emp, mg_set, c_1, c_2, c_3]; done), by show va_P _ _ _ t.heap; rw [ht]; exact hP⟩, hS.F ht⟩) hS.2.2 d_M_mayBeDone_51
    · refine lv_aload_n hx hb d_M_mayBeDone_28 rfl (lv_at hl 2 rfl) ?_
      refine va_get (D := (dC, dI)) (ci := 3) (v := .int tm) (C := R_M) (T := F_M) (N := 12) hx hb hw i_M hown hK hP 0 rfl rfl 2 (by decide) (hw _ kb_338) (fun _ h9 => h9) rfl d_M_mayBeDone_29 ?_
      refine lv_aload_n hx hb d_M_mayBeDone_32 rfl (lv_at hl 2 rfl) ?_
      refine va_get (D := (dC, dI)) (ci := 3) (v := .ref (a 3)) (C := R_M) (T := F_M) (N := 12) hx hb hw i_M hown hK hP 0 rfl rfl 7 (by decide) (hw _ kb_343) (fun _ h9 => h9) rfl d_M_mayBeDone_33 ?_
      refine lv_iload_n hx hb d_M_mayBeDone_36 rfl (lv_at hl 3 rfl) ?_
      refine ml_li hx hb hK hP hg d_M_mayBeDone_37 ?_
      refine lv_icmp_ge (tgt := 42) hx hb d_M_mayBeDone_38 (by decide) (fun c_5 => ?_) (fun c_5 => ?_)
      · refine lv_iload_n hx hb d_M_mayBeDone_42 rfl (lv_at hl 0 rfl) ?_
        refine lv_if_ne (tgt := 52) hx hb d_M_mayBeDone_43 (by decide) (fun c_6 => ?_) (fun c_6 => ?_)
        · refine lv_aload_n hx hb d_M_mayBeDone_52 rfl (lv_at hl 2 rfl) ?_
          refine kc_i (Wd := mwv cI cJ cZ a) (va_runV (As := []) (rest := []) ⟨hx, hb, hml, hown, hw⟩ (c_M_takesNote l hnd co lg tm rm no (va_up M g (x0, x1, x2, x3, x4, x5, x6)) _) (cwV 0 hw (kb_V kb_409 kb_411 kb_s11 kb_6 kb_412) rfl rfl rfl (by decide +kernel) ⟨Nat.le_of_ble_eq_true rfl, Nat.le_of_ble_eq_true rfl⟩) (kPV (va_recv hK hP (ci := 3) (q0 := 0) rfl rfl) hP hK) rfl rfl hl.1 rfl (lv_room (Nat.le_of_ble_eq_true rfl)) d_M_mayBeDone_53 ⟨Nat.le_of_ble_eq_true rfl, Nat.le_of_ble_eq_true rfl⟩) hS hA hAL (fun r_9 u_8 H locs hw9 hP _ _ hS => ?_)
          obtain ⟨rfl, rfl⟩ := hw9
          generalize hq_10 : mn_take rm no = z_10 at hP ⊢
          obtain ⟨r_10, rm_10, no_10⟩ := z_10
          have hP : va_P (dC, dI) vwCl (mw cI cJ cZ a co lg tm rm_10 no_10 (va_up M g (x0, x1, x2, x3, x4, x5, x6))) _ := hP
          refine lv_if_ne (tgt := 60) hx hb d_M_mayBeDone_56 (by decide) (fun c_7 => ?_) (fun c_7 => ?_)
          · refine lv_iconst (v := 0) hx hb d_M_mayBeDone_60 (by decide) ?_
            refine lv_istore (lv' := [(4, .int 0), (3, .int (mg_jn x3 x4 8)), (2, .int (mg_cnt x3 8)), (0, .ref (a 0)), (1, .int (nI g))]) hx hb d_M_mayBeDone_61 hl (by decide) rfl (fun ls hl => ?_)
            refine lp_M_done (x0 := x0) (x1 := x1) (x2 := x2) (x3 := x3) (x4 := x4) (x5 := x5) (x6 := x6) hnd hg hx hb hml hown hw hK hA hAL (fun H locs ls hP hS hl => ?_) 8 0 _ _ ls rfl hP hS (lv_sub hl [0, 1, 2, 3, 4] rfl)
            refine lv_aload_n hx hb d_M_mayBeDone_139 rfl (lv_at hl 3 rfl) ?_
            refine va_get (D := (dC, dI)) (ci := 3) (v := .ref (a 2)) (C := R_M) (T := F_M) (N := 12) hx hb hw i_M hown hK hP 0 rfl rfl 6 (by decide) (hw _ kb_342) (fun _ h9 => h9) rfl d_M_mayBeDone_140 ?_
            refine lv_iload_n hx hb d_M_mayBeDone_143 rfl (lv_at hl 4 rfl) ?_
            refine lv_dup2_11 hx hb d_M_mayBeDone_144 rfl rfl ?_
            refine ml_ge hx hb hK hP hg d_M_mayBeDone_145 ?_
            refine lv_iconst (v := 1) hx hb d_M_mayBeDone_146 (by decide) ?_
            refine lv_iadd hx hb d_M_mayBeDone_147 ?_
            refine ms_ge (v := x1 + (1 : Int32)) hx hb hK hP hnd hAL hS hg d_M_mayBeDone_148 (fun H locs hP hS => ?_)
            refine lv_aload_n hx hb d_M_mayBeDone_149 rfl (lv_at hl 3 rfl) ?_
            refine va_get (D := (dC, dI)) (ci := 3) (v := .ref (a 1)) (C := R_M) (T := F_M) (N := 12) hx hb hw i_M hown hK hP 0 rfl rfl 5 (by decide) (hw _ kb_341) (fun _ h9 => h9) rfl d_M_mayBeDone_150 ?_
            refine lv_iload_n hx hb d_M_mayBeDone_153 rfl (lv_at hl 4 rfl) ?_
            refine lv_iconst (v := 2) hx hb d_M_mayBeDone_154 (by decide) ?_
            refine ms_st (v := 2) hx hb hK hP hnd hAL hS hg d_M_mayBeDone_155 (fun H locs hP hS => ?_)
            exact W.vret hx hb hr (fun t ht hW => ⟨⟨(co, lg, tm, rm_10, no_10, (va_up M g (2, x1 + (1 : Int32), x2, md x3 x4 8, x4, mt x5 tm 8, x6))), rfl, by first | (simp only [mg_done, mg_go, mg_emp, mg_set, if_pos c_1, if_neg c_2, if_pos c_5, if_neg c_6, hq_10, if_neg c_7]; done) | (simp [mg_done, mg_go, mg_emp, mg_set, c_1, c_2, c_5, c_6, hq_10, c_7]; done), by show va_P _ _ _ t.heap; rw [ht]; exact hP⟩, hS.F ht⟩) hS.2.2 d_M_mayBeDone_156
          · exact W.vret hx hb hr (fun t ht hW => ⟨⟨(co, lg, tm, rm_10, no_10, (va_up M g (x0, x1, x2, x3, x4, x5, x6))), rfl, by first | (simp only [mg_done, mg_go, mg_emp, mg_set, if_pos c_1, if_neg c_2, if_pos c_5, if_neg c_6, hq_10, if_pos c_7]; done) | (simp [mg_done, mg_go, mg_emp, mg_set, c_1, c_2, c_5, c_6, hq_10, c_7]; done), by show va_P _ _ _ t.heap; rw [ht]; exact hP⟩, hS.F ht⟩) hS.2.2 d_M_mayBeDone_59
        · refine lv_aload_n hx hb d_M_mayBeDone_46 rfl (lv_at hl 2 rfl) ?_
          refine lv_iload_n hx hb d_M_mayBeDone_47 rfl (lv_at hl 3 rfl) ?_
          refine kc_v (Wd := mwv cI cJ cZ a) (va_runV (As := [.int (nI g)]) (rest := []) ⟨hx, hb, hml, hown, hw⟩ (c_M_empties l hnd co lg tm rm no M hg x0 x1 x2 x3 x4 x5 x6 _) (cwV 1 hw (kb_V kb_405 kb_407 kb_s10 kb_6 kb_408) rfl rfl rfl (by decide +kernel) ⟨Nat.le_of_ble_eq_true rfl, Nat.le_of_ble_eq_true rfl⟩) (kPV (va_recv hK hP (ci := 3) (q0 := 0) rfl rfl) hP hK) rfl rfl hl.1 rfl (lv_room (Nat.le_of_ble_eq_true rfl)) d_M_mayBeDone_48 ⟨Nat.le_of_ble_eq_true rfl, Nat.le_of_ble_eq_true rfl⟩) hS hA hAL (fun u_11 H locs hw9 hP _ _ hS => ?_)
          subst hw9
          have hP : va_P (dC, dI) vwCl (mw cI cJ cZ a co lg tm rm no (va_up M g (0, x1, x2, mz x3 8, mz x4 8, x5, x6))) _ := hP
          exact W.vret hx hb hr (fun t ht hW => ⟨⟨(co, lg, tm, rm, no, (va_up M g (0, x1, x2, mz x3 8, mz x4 8, x5, x6))), rfl, by first | (simp only [mg_done, mg_go, mg_emp, mg_set, if_pos c_1, if_neg c_2, if_pos c_5, if_pos c_6]; done) | (simp [mg_done, mg_go, mg_emp, mg_set, c_1, c_2, c_5, c_6]; done), by show va_P _ _ _ t.heap; rw [ht]; exact hP⟩, hS.F ht⟩) hS.2.2 d_M_mayBeDone_51
      · exact W.vret hx hb hr (fun t ht hW => ⟨⟨(co, lg, tm, rm, no, (va_up M g (x0, x1, x2, x3, x4, x5, x6))), rfl, by first | (simp only [mg_done, mg_go, mg_emp, mg_set, if_pos c_1, if_neg c_2, if_neg c_5]; done) | (simp [mg_done, mg_go, mg_emp, mg_set, c_1, c_2, c_5]; done), by show va_P _ _ _ t.heap; rw [ht]; exact hP⟩, hS.F ht⟩) hS.2.2 d_M_mayBeDone_41
  · exact W.vret hx hb hr (fun t ht hW => ⟨⟨(co, lg, tm, rm, no, (va_up M g (x0, x1, x2, x3, x4, x5, x6))), rfl, by first | (simp only [mg_done, mg_go, mg_emp, mg_set, if_neg c_1]; done) | (simp [mg_done, mg_go, mg_emp, mg_set, c_1]; done), by show va_P _ _ _ t.heap; rw [ht]; exact hP⟩, hS.F ht⟩) hS.2.2 d_M_mayBeDone_10
set_option maxHeartbeats 4000000 in
set_option maxRecDepth 100000 in
theorem lp_M_tick {p : Program} {l : Launch} {e : Env} {s : State} {m : MethodId} {args : Array Value} {below : List Frame} {meth : Method} {c : Code} {Q : State → Prop} {dC : Nat → ClassId} {dI : Nat → Nat → Nat} {cI cJ cZ : ClassId} {a : Nat → Nat} (hnd : (mad a).Nodup) {co lg tm rm no : Int32} {M : Nat → mGV} {g : Nat} (hg : g < 8) {x0 x1 x2 : Int32} {x3 x4 x5 : Nat → Int32} {x6 : Nat → Int64} {A : Nat → Prop} (hx : p.tables.exec = Jvm.exec) (hb : c.code = b_M_tick) (hml : c.maxLocals = 4) (hown : s.vm.findClass R_M = some m.cls) (hw : ∀ w ∈ kb_B, w.before args s = true) (hK : va_K (dC, dI) vwCl (mty cI cJ cZ) s) (hA : ∀ q : Nat, s.heap.size ≤ q → A q) (hAL : ∀ q ∈ mad a, A q) (h2 : x0 = 2)
    (kk : ∀ (H : Heap) (locs : List Loc) (ls : Array Slot), va_P (dC, dI) vwCl (mw cI cJ cZ a co lg tm rm no (va_up M g (x0, x1, x2, (mtk x3 x5 tm 8).1, x4, x5, x6))) H → va_S A s.heap H locs → lv_has ls 4 [(3, .int (nI 8)), (2, .int ((mtk x3 x5 tm 8).2)), (0, .ref (a 0)), (1, .int (nI g))] → W p l e (headSpec w_M_tick ({ frames := 2, cells := 0, slots := 0, locals := 60 })).room s m args below meth c H locs 0 0 Q (F0 m 75 ls [])) :
    ∀ (k i : Nat) (H : Heap) (locs : List Loc) (ls : Array Slot), i + k = 8 → va_P (dC, dI) vwCl (mw cI cJ cZ a co lg tm rm no (va_up M g (x0, x1, x2, (mtk x3 x5 tm i).1, x4, x5, x6))) H → va_S A s.heap H locs → lv_has ls 4 [(3, .int (nI i)), (2, .int ((mtk x3 x5 tm i).2)), (0, .ref (a 0)), (1, .int (nI g))] → W p l e (headSpec w_M_tick ({ frames := 2, cells := 0, slots := 0, locals := 60 })).room s m args below meth c H locs 0 0 Q (F0 m 4 ls []) := by
  intro k
  induction k with
  | zero =>
    intro i H locs ls hi hP hS hl
    have hi8 : i = 8 := by omega
    subst hi8
    refine lv_iload_n hx hb d_M_tick_4 rfl (lv_at hl 0 rfl) ?_
    refine lv_bipush (v := 8) hx hb d_M_tick_5 (by decide) ?_
    refine lv_icmp_ge (tgt := 75) hx hb d_M_tick_7 (by decide) (fun c_1 => ?_) (fun c_1 => ?_)
    · exact kk H locs ls hP hS hl
    · exact absurd (nI_le (Nat.le_refl 8) (by decide)) c_1
  | succ k ih =>
    intro i H locs ls hi hP hS hl
    refine lv_iload_n hx hb d_M_tick_4 rfl (lv_at hl 0 rfl) ?_
    refine lv_bipush (v := 8) hx hb d_M_tick_5 (by decide) ?_
    refine lv_icmp_ge (tgt := 75) hx hb d_M_tick_7 (by decide) (fun c_1 => ?_) (fun c_1 => ?_)
    · exact absurd c_1 (nI_ge (a := i) (b := 8) (by omega) (by decide))
    · refine lv_aload_n hx hb d_M_tick_10 rfl (lv_at hl 2 rfl) ?_
      refine va_get (D := (dC, dI)) (ci := 3) (v := .ref (a 1)) (C := R_M) (T := F_M) (N := 12) hx hb hw i_M hown hK hP 0 rfl rfl 5 (by decide) (hw _ kb_341) (fun _ h9 => h9) rfl d_M_tick_11 ?_
      refine lv_iload_n hx hb d_M_tick_14 rfl (lv_at hl 3 rfl) ?_
      refine ml_st hx hb hK hP hg d_M_tick_15 ?_
      refine lv_iconst (v := 2) hx hb d_M_tick_16 (by decide) ?_
      refine lv_icmp_ne (tgt := 75) hx hb d_M_tick_17 (by decide) (fun c_2 => ?_) (fun c_2 => ?_)
      · exact absurd h2 c_2
      · refine lv_aload_n hx hb d_M_tick_20 rfl (lv_at hl 2 rfl) ?_
        refine va_get (D := (dC, dI)) (ci := 3) (v := .ref (a 4)) (C := R_M) (T := F_M) (N := 12) hx hb hw i_M hown hK hP 0 rfl rfl 8 (by decide) (hw _ kb_344) (fun _ h9 => h9) rfl d_M_tick_21 ?_
        refine lv_bipush (v := 8) hx hb d_M_tick_24 (by decide) ?_
        refine lv_iload_n hx hb d_M_tick_26 rfl (lv_at hl 3 rfl) ?_
        refine lv_imul hx hb d_M_tick_27 ?_
        refine lv_iload_n hx hb d_M_tick_28 rfl (lv_at hl 0 rfl) ?_
        refine lv_iadd hx hb d_M_tick_29 ?_
        refine ml_me (i := i) hx hb hK hP hg (show i < 8 by omega) d_M_tick_30 ?_
        refine lv_if_eq (tgt := 69) hx hb d_M_tick_31 (by decide) (fun c_3 => ?_) (fun c_3 => ?_)
        · refine lv_iinc (v := (nI i) + 1) (lv' := [(3, .int ((nI i) + 1)), (2, .int ((mtk x3 x5 tm i).2)), (0, .ref (a 0)), (1, .int (nI g))]) hx hb d_M_tick_69 hl (k := 0) rfl rfl (by decide) rfl (fun ls hl => ?_)
          refine lv_goto (tgt := 4) hx hb d_M_tick_72 (by decide) ?_
          have hs0 : mtk x3 x5 tm (i + 1) = mtk x3 x5 tm i := by simp only [mtk, if_pos c_2, if_pos c_3]
          refine ih (i + 1) H locs ls (by omega) ?_ hS ?_
          · rw [hs0]; exact hP
          · rw [nI_succ]; rw [hs0]; exact lv_sub hl [0, 1, 2, 3] rfl
        · refine lv_aload_n hx hb d_M_tick_34 rfl (lv_at hl 2 rfl) ?_
          refine va_get (D := (dC, dI)) (ci := 3) (v := .int tm) (C := R_M) (T := F_M) (N := 12) hx hb hw i_M hown hK hP 0 rfl rfl 2 (by decide) (hw _ kb_338) (fun _ h9 => h9) rfl d_M_tick_35 ?_
          refine lv_aload_n hx hb d_M_tick_38 rfl (lv_at hl 2 rfl) ?_
          refine va_get (D := (dC, dI)) (ci := 3) (v := .ref (a 6)) (C := R_M) (T := F_M) (N := 12) hx hb hw i_M hown hK hP 0 rfl rfl 10 (by decide) (hw _ kb_346) (fun _ h9 => h9) rfl d_M_tick_39 ?_
          refine lv_bipush (v := 8) hx hb d_M_tick_42 (by decide) ?_
          refine lv_iload_n hx hb d_M_tick_44 rfl (lv_at hl 3 rfl) ?_
          refine lv_imul hx hb d_M_tick_45 ?_
          refine lv_iload_n hx hb d_M_tick_46 rfl (lv_at hl 0 rfl) ?_
          refine lv_iadd hx hb d_M_tick_47 ?_
          refine ml_he (i := i) hx hb hK hP hg (show i < 8 by omega) d_M_tick_48 ?_
          refine lv_isub hx hb d_M_tick_49 ?_
          refine lv_bipush (v := 30) hx hb d_M_tick_50 (by decide) ?_
          refine lv_icmp_lt (tgt := 69) hx hb d_M_tick_52 (by decide) (fun c_4 => ?_) (fun c_4 => ?_)
          · refine lv_iinc (v := (nI i) + 1) (lv' := [(3, .int ((nI i) + 1)), (2, .int ((mtk x3 x5 tm i).2)), (0, .ref (a 0)), (1, .int (nI g))]) hx hb d_M_tick_69 hl (k := 0) rfl rfl (by decide) rfl (fun ls hl => ?_)
            refine lv_goto (tgt := 4) hx hb d_M_tick_72 (by decide) ?_
            have hs0 : mtk x3 x5 tm (i + 1) = mtk x3 x5 tm i := by simp only [mtk, if_pos c_2, if_neg c_3, if_pos c_4]
            refine ih (i + 1) H locs ls (by omega) ?_ hS ?_
            · rw [hs0]; exact hP
            · rw [nI_succ]; rw [hs0]; exact lv_sub hl [0, 1, 2, 3] rfl
          · refine lv_aload_n hx hb d_M_tick_55 rfl (lv_at hl 2 rfl) ?_
            refine va_get (D := (dC, dI)) (ci := 3) (v := .ref (a 4)) (C := R_M) (T := F_M) (N := 12) hx hb hw i_M hown hK hP 0 rfl rfl 8 (by decide) (hw _ kb_344) (fun _ h9 => h9) rfl d_M_tick_56 ?_
            refine lv_bipush (v := 8) hx hb d_M_tick_59 (by decide) ?_
            refine lv_iload_n hx hb d_M_tick_61 rfl (lv_at hl 3 rfl) ?_
            refine lv_imul hx hb d_M_tick_62 ?_
            refine lv_iload_n hx hb d_M_tick_63 rfl (lv_at hl 0 rfl) ?_
            refine lv_iadd hx hb d_M_tick_64 ?_
            refine lv_iconst (v := 0) hx hb d_M_tick_65 (by decide) ?_
            refine ms_me (i := i) (v := 0) hx hb hK hP hnd hAL hS hg (show i < 8 by omega) d_M_tick_66 (fun H locs hP hS => ?_)
            rw [vz0] at hP
            refine lv_iconst (v := 1) hx hb d_M_tick_67 (by decide) ?_
            refine lv_istore_n (lv' := [(2, .int 1), (3, .int (nI i)), (0, .ref (a 0)), (1, .int (nI g))]) hx hb d_M_tick_68 rfl hl (by decide) rfl (fun ls hl => ?_)
            refine lv_iinc (v := (nI i) + 1) (lv' := [(3, .int ((nI i) + 1)), (2, .int 1), (0, .ref (a 0)), (1, .int (nI g))]) hx hb d_M_tick_69 hl (k := 1) rfl rfl (by decide) rfl (fun ls hl => ?_)
            refine lv_goto (tgt := 4) hx hb d_M_tick_72 (by decide) ?_
            have hs0 : mtk x3 x5 tm (i + 1) = (upd ((mtk x3 x5 tm i).1) i 0, 1) := by simp only [mtk, if_pos c_2, if_neg c_3, if_neg c_4]
            refine ih (i + 1) H locs ls (by omega) ?_ hS ?_
            · rw [hs0]; exact hP
            · rw [nI_succ]; rw [hs0]; exact lv_sub hl [0, 1, 2, 3] rfl
set_option maxHeartbeats 4000000 in
set_option maxRecDepth 100000 in
theorem c_M_tick (l : Launch) {dC : Nat → ClassId} {dI : Nat → Nat → Nat} {cI cJ cZ : ClassId} {a : Nat → Nat} (hnd : (mad a).Nodup) (co lg tm rm no : Int32) (M : Nat → mGV) {g : Nat} (hg : g < 8) (x0 x1 x2 : Int32) (x3 x4 x5 : Nat → Int32) (x6 : Nat → Int64) (sz : Nat) : Met l y_M_tick w_M_tick ({ frames := 2, cells := 0, slots := 0, locals := 60 }) (kPre (dC, dI) vwCl (mty cI cJ cZ) [.ref (a 0), .int (nI g)] sz (mw cI cJ cZ a co lg tm rm no (va_up M g (x0, x1, x2, x3, x4, x5, x6)))) (va_Qv (fun u : mDV => u = (co, lg, tm, (mg_done tm rm no (mg_tk tm (x0, x1, x2, x3, x4, x5, x6))).2.1, (mg_done tm rm no (mg_tk tm (x0, x1, x2, x3, x4, x5, x6))).2.2, va_up M g ((mg_done tm rm no (mg_tk tm (x0, x1, x2, x3, x4, x5, x6))).1))) (fun u t => va_P (dC, dI) vwCl (mwv cI cJ cZ a u) t.heap) (kA (mad a) sz)) 0 0 (kA (mad a) sz) := by
  refine Met.ofW (cc := b_M_tick) (maxL := 4) (ret := none) (by decide) rfl ?_
  intro p e s m args below meth c s₁ B hml hv
  obtain ⟨rfl, hsz, hP, hK⟩ := hv
  have hx := B.exec
  have hb := B.bytes
  have hr := B.returns
  have hts := atoms_spec (ws := w_M_tick) B.pre
  have hw := fun (w : Cond) (h : w ∈ kb_B) => hts w (List.mem_cons_of_mem _ h)
  have hown : s.vm.findClass R_M = some m.cls := findClass_of_methodNamed B.named
  have hlocks := B.notSynchronized
  subst hsz
  generalize hAe : kA (mad a) s.heap.size = A
  have hA : ∀ q : Nat, s.heap.size ≤ q → A q := fun q h => by rw [← hAe]; exact Or.inr h
  have hAL : ∀ q ∈ (mad a), A q := fun q h => by rw [← hAe]; exact Or.inl h
  have hS : va_S A s.heap s.heap [] := va_S.rf
  have hl := lv_entry ([.ref (a 0), .int (nI g)]) (n := 4) (Nat.le_of_ble_eq_true rfl)
  rw [lg_entry_eq]
  generalize (lg_sl ([.ref (a 0), .int (nI g)]) ++ List.replicate (4 - (lg_sl ([.ref (a 0), .int (nI g)])).length) Slot.unset).toArray = ls at hl ⊢
  have hl : lv_has ls 4 [(0, .ref (a 0)), (1, .int (nI g))] := hl
  refine lv_iconst (v := 0) hx hb d_M_tick_0 (by decide) ?_
  refine lv_istore_n (lv' := [(2, .int 0), (0, .ref (a 0)), (1, .int (nI g))]) hx hb d_M_tick_1 rfl hl (by decide) rfl (fun ls hl => ?_)
  refine lv_iconst (v := 0) hx hb d_M_tick_2 (by decide) ?_
  refine lv_istore_n (lv' := [(3, .int 0), (2, .int 0), (0, .ref (a 0)), (1, .int (nI g))]) hx hb d_M_tick_3 rfl hl (by decide) rfl (fun ls hl => ?_)
  by_cases h2 : x0 = 2
  · refine lp_M_tick (x0 := x0) (x1 := x1) (x2 := x2) (x3 := x3) (x4 := x4) (x5 := x5) (x6 := x6) hnd hg hx hb hml hown hw hK hA hAL h2 (fun H locs ls hP hS hl => ?_) 8 0 _ _ ls rfl hP hS (lv_sub hl [0, 1, 2, 3] rfl)
    refine lv_iload_n hx hb d_M_tick_75 rfl (lv_at hl 1 rfl) ?_
    refine lv_if_eq (tgt := 84) hx hb d_M_tick_76 (by decide) (fun c_1 => ?_) (fun c_1 => ?_)
    · refine lv_aload_n hx hb d_M_tick_84 rfl (lv_at hl 2 rfl) ?_
      refine lv_iload_n hx hb d_M_tick_85 rfl (lv_at hl 3 rfl) ?_
      refine kc_v (Wd := mwv cI cJ cZ a) (va_runV (As := [.int (nI g)]) (rest := []) ⟨hx, hb, hml, hown, hw⟩ (c_M_mayBeDone l hnd co lg tm rm no M hg x0 x1 x2 ((mtk x3 x5 tm 8).1) x4 x5 x6 _) (cwV 1 hw (kb_V kb_393 kb_395 kb_s7 kb_6 kb_396) rfl rfl rfl (by decide +kernel) ⟨Nat.le_of_ble_eq_true rfl, Nat.le_of_ble_eq_true rfl⟩) (kPV (va_recv hK hP (ci := 3) (q0 := 0) rfl rfl) hP hK) rfl rfl hl.1 rfl (lv_room (Nat.le_of_ble_eq_true rfl)) d_M_tick_86 ⟨Nat.le_of_ble_eq_true rfl, Nat.le_of_ble_eq_true rfl⟩) hS hA hAL (fun u_1 H locs hw9 hP _ _ hS => ?_)
      subst hw9
      have hP : va_P (dC, dI) vwCl (mw cI cJ cZ a co lg tm (mg_done tm rm no (x0, x1, x2, ((mtk x3 x5 tm 8).1), x4, x5, x6)).2.1 (mg_done tm rm no (x0, x1, x2, ((mtk x3 x5 tm 8).1), x4, x5, x6)).2.2 (va_up M g (mg_done tm rm no (x0, x1, x2, ((mtk x3 x5 tm 8).1), x4, x5, x6)).1)) _ := hP
      generalize hq_3 : mg_done tm rm no (x0, x1, x2, ((mtk x3 x5 tm 8).1), x4, x5, x6) = z_3 at hP
      obtain ⟨⟨y3_0, y3_1, y3_2, y3_3, y3_4, y3_5, y3_6⟩, rm_3, no_3⟩ := z_3
      have hP : va_P (dC, dI) vwCl (mw cI cJ cZ a co lg tm rm_3 no_3 (va_up M g (y3_0, y3_1, y3_2, y3_3, y3_4, y3_5, y3_6))) _ := hP
      exact W.vret hx hb hr (fun t ht hW => ⟨⟨(co, lg, tm, rm_3, no_3, (va_up M g (y3_0, y3_1, y3_2, y3_3, y3_4, y3_5, y3_6))), rfl, by first | (simp only [mg_tk, if_pos h2, if_pos c_1, hq_3]; done) | (simp [mg_tk, h2, c_1, hq_3]; done), by show va_P _ _ _ t.heap; rw [ht]; exact hP⟩, hS.F ht⟩) hS.2.2 d_M_tick_89
    · refine lv_aload_n hx hb d_M_tick_79 rfl (lv_at hl 2 rfl) ?_
      refine lv_iload_n hx hb d_M_tick_80 rfl (lv_at hl 3 rfl) ?_
      refine kc_v (Wd := mwv cI cJ cZ a) (va_runV (As := [.int (nI g)]) (rest := []) ⟨hx, hb, hml, hown, hw⟩ (c_M_without l hnd co lg tm rm no M hg x0 x1 x2 ((mtk x3 x5 tm 8).1) x4 x5 x6 _) (cwV 1 hw (kb_V kb_417 kb_419 kb_s12 kb_6 kb_420) rfl rfl rfl (by decide +kernel) ⟨Nat.le_of_ble_eq_true rfl, Nat.le_of_ble_eq_true rfl⟩) (kPV (va_recv hK hP (ci := 3) (q0 := 0) rfl rfl) hP hK) rfl rfl hl.1 rfl (lv_room (Nat.le_of_ble_eq_true rfl)) d_M_tick_81 ⟨Nat.le_of_ble_eq_true rfl, Nat.le_of_ble_eq_true rfl⟩) hS hA hAL (fun u_4 H locs hw9 hP _ _ hS => ?_)
      subst hw9
      have hP : va_P (dC, dI) vwCl (mw cI cJ cZ a co lg tm rm no (va_up M g (mg_wo tm (x0, x1, x2, ((mtk x3 x5 tm 8).1), x4, x5, x6)))) _ := hP
      generalize hq_6 : mg_wo tm (x0, x1, x2, ((mtk x3 x5 tm 8).1), x4, x5, x6) = z_6 at hP
      obtain ⟨y6_0, y6_1, y6_2, y6_3, y6_4, y6_5, y6_6⟩ := z_6
      refine lv_aload_n hx hb d_M_tick_84 rfl (lv_at hl 2 rfl) ?_
      refine lv_iload_n hx hb d_M_tick_85 rfl (lv_at hl 3 rfl) ?_
      refine kc_v (Wd := mwv cI cJ cZ a) (va_runV (As := [.int (nI g)]) (rest := []) ⟨hx, hb, hml, hown, hw⟩ (c_M_mayBeDone l hnd co lg tm rm no M hg y6_0 y6_1 y6_2 y6_3 y6_4 y6_5 y6_6 _) (cwV 1 hw (kb_V kb_393 kb_395 kb_s7 kb_6 kb_396) rfl rfl rfl (by decide +kernel) ⟨Nat.le_of_ble_eq_true rfl, Nat.le_of_ble_eq_true rfl⟩) (kPV (va_recv hK hP (ci := 3) (q0 := 0) rfl rfl) hP hK) rfl rfl hl.1 rfl (lv_room (Nat.le_of_ble_eq_true rfl)) d_M_tick_86 ⟨Nat.le_of_ble_eq_true rfl, Nat.le_of_ble_eq_true rfl⟩) hS hA hAL (fun u_7 H locs hw9 hP _ _ hS => ?_)
      subst hw9
      have hP : va_P (dC, dI) vwCl (mw cI cJ cZ a co lg tm (mg_done tm rm no (y6_0, y6_1, y6_2, y6_3, y6_4, y6_5, y6_6)).2.1 (mg_done tm rm no (y6_0, y6_1, y6_2, y6_3, y6_4, y6_5, y6_6)).2.2 (va_up M g (mg_done tm rm no (y6_0, y6_1, y6_2, y6_3, y6_4, y6_5, y6_6)).1)) _ := hP
      generalize hq_9 : mg_done tm rm no (y6_0, y6_1, y6_2, y6_3, y6_4, y6_5, y6_6) = z_9 at hP
      obtain ⟨⟨y9_0, y9_1, y9_2, y9_3, y9_4, y9_5, y9_6⟩, rm_9, no_9⟩ := z_9
      have hP : va_P (dC, dI) vwCl (mw cI cJ cZ a co lg tm rm_9 no_9 (va_up M g (y9_0, y9_1, y9_2, y9_3, y9_4, y9_5, y9_6))) _ := hP
      exact W.vret hx hb hr (fun t ht hW => ⟨⟨(co, lg, tm, rm_9, no_9, (va_up M g (y9_0, y9_1, y9_2, y9_3, y9_4, y9_5, y9_6))), rfl, by first | (simp only [mg_tk, if_pos h2, if_neg c_1, hq_6, hq_9]; done) | (simp [mg_tk, h2, c_1, hq_6, hq_9]; done), by show va_P _ _ _ t.heap; rw [ht]; exact hP⟩, hS.F ht⟩) hS.2.2 d_M_tick_89
  · refine lv_iload_n hx hb d_M_tick_4 rfl (lv_at hl 0 rfl) ?_
    refine lv_bipush (v := 8) hx hb d_M_tick_5 (by decide) ?_
    refine lv_icmp_ge (tgt := 75) hx hb d_M_tick_7 (by decide) (fun c_2 => absurd c_2 (by decide)) (fun c_2 => ?_)
    refine lv_aload_n hx hb d_M_tick_10 rfl (lv_at hl 2 rfl) ?_
    refine va_get (D := (dC, dI)) (ci := 3) (v := .ref (a 1)) (C := R_M) (T := F_M) (N := 12) hx hb hw i_M hown hK hP 0 rfl rfl 5 (by decide) (hw _ kb_341) (fun _ h9 => h9) rfl d_M_tick_11 ?_
    refine lv_iload_n hx hb d_M_tick_14 rfl (lv_at hl 3 rfl) ?_
    refine ml_st hx hb hK hP hg d_M_tick_15 ?_
    refine lv_iconst (v := 2) hx hb d_M_tick_16 (by decide) ?_
    refine lv_icmp_ne (tgt := 75) hx hb d_M_tick_17 (by decide) (fun c_3 => ?_) (fun c_3 => ?_)
    · refine lv_iload_n hx hb d_M_tick_75 rfl (lv_at hl 1 rfl) ?_
      refine lv_if_eq (tgt := 84) hx hb d_M_tick_76 (by decide) (fun c_4 => ?_) (fun c_4 => (c_4 (by decide)).elim)
      refine lv_aload_n hx hb d_M_tick_84 rfl (lv_at hl 2 rfl) ?_
      refine lv_iload_n hx hb d_M_tick_85 rfl (lv_at hl 3 rfl) ?_
      refine kc_v (Wd := mwv cI cJ cZ a) (va_runV (As := [.int (nI g)]) (rest := []) ⟨hx, hb, hml, hown, hw⟩ (c_M_mayBeDone l hnd co lg tm rm no M hg x0 x1 x2 x3 x4 x5 x6 _) (cwV 1 hw (kb_V kb_393 kb_395 kb_s7 kb_6 kb_396) rfl rfl rfl (by decide +kernel) ⟨Nat.le_of_ble_eq_true rfl, Nat.le_of_ble_eq_true rfl⟩) (kPV (va_recv hK hP (ci := 3) (q0 := 0) rfl rfl) hP hK) rfl rfl hl.1 rfl (lv_room (Nat.le_of_ble_eq_true rfl)) d_M_tick_86 ⟨Nat.le_of_ble_eq_true rfl, Nat.le_of_ble_eq_true rfl⟩) hS hA hAL (fun u_10 H locs hw9 hP _ _ hS => ?_)
      subst hw9
      have hP : va_P (dC, dI) vwCl (mw cI cJ cZ a co lg tm (mg_done tm rm no (x0, x1, x2, x3, x4, x5, x6)).2.1 (mg_done tm rm no (x0, x1, x2, x3, x4, x5, x6)).2.2 (va_up M g (mg_done tm rm no (x0, x1, x2, x3, x4, x5, x6)).1)) _ := hP
      generalize hq_12 : mg_done tm rm no (x0, x1, x2, x3, x4, x5, x6) = z_12 at hP
      obtain ⟨⟨y12_0, y12_1, y12_2, y12_3, y12_4, y12_5, y12_6⟩, rm_12, no_12⟩ := z_12
      have hP : va_P (dC, dI) vwCl (mw cI cJ cZ a co lg tm rm_12 no_12 (va_up M g (y12_0, y12_1, y12_2, y12_3, y12_4, y12_5, y12_6))) _ := hP
      exact W.vret hx hb hr (fun t ht hW => ⟨⟨(co, lg, tm, rm_12, no_12, (va_up M g (y12_0, y12_1, y12_2, y12_3, y12_4, y12_5, y12_6))), rfl, by first | (simp only [mg_tk, if_neg h2, if_neg c_3, hq_12]; done) | (simp [mg_tk, h2, c_3, hq_12]; done), by show va_P _ _ _ t.heap; rw [ht]; exact hP⟩, hS.F ht⟩) hS.2.2 d_M_tick_89
    · exact absurd c_3 h2
theorem mo_nx_le (me : Nat → Int32) (f m : Nat) : mo_nx me f m ≤ m + f := by
  induction f generalizing m with
  | zero => exact Nat.le_refl _
  | succ f ih =>
    unfold mo_nx
    split
    · have := ih (m + 1); omega
    · omega
theorem mo_s_le (me : Nat → Int32) (k : Nat) : mo_s me k ≤ 9 * k := by
  induction k with
  | zero => exact Nat.le_refl _
  | succ k ih =>
    have := mo_nx_le me 8 (mo_s me k)
    unfold mo_s
    omega
theorem mo_ex {me : Nat → Int32} (h : ∃ q, q < 8 ∧ me q ≠ 0) (m : Nat) : ∃ j, j < 8 ∧ me ((m + j) % 8) ≠ 0 := by
  obtain ⟨q, hq, hm⟩ := h
  refine ⟨(q + 8 - m % 8) % 8, by omega, ?_⟩
  rw [show (m + (q + 8 - m % 8) % 8) % 8 = q by omega]
  exact hm
set_option maxHeartbeats 4000000 in
set_option maxRecDepth 100000 in
theorem lp_M_own1 {p : Program} {l : Launch} {e : Env} {s : State} {m : MethodId} {args : Array Value} {below : List Frame} {meth : Method} {c : Code} {Q : State → Prop} {dC : Nat → ClassId} {dI : Nat → Nat → Nat} {cI cJ cZ : ClassId} {a : Nat → Nat} (hnd : (mad a).Nodup) {co lg tm rm no : Int32} {M : Nat → mGV} {g b k T : Nat} (hg : g < 8) {x0 x1 x2 : Int32} {x3 x4 x5 : Nat → Int32} {x6 : Nat → Int64} {H : Heap} {locs : List Loc} (hx : p.tables.exec = Jvm.exec) (hb : c.code = b_M_owner) (hml : c.maxLocals = 5) (hown : s.vm.findClass R_M = some m.cls) (hw : ∀ w ∈ kb_B, w.before args s = true) (hK : va_K (dC, dI) vwCl (mty cI cJ cZ) s) (hP : va_P (dC, dI) vwCl (mw cI cJ cZ a co lg tm rm no (va_up M g (x0, x1, x2, x3, x4, x5, x6))) H)
    (kk : ∀ ls : Array Slot, lv_has ls 5 [(3, .int (nI T)), (4, .int (nI k)), (0, .ref (a 0)), (1, .int (nI g)), (2, .int (nI b))] → W p l e (headSpec w_M_owner ({ frames := 0, cells := 0, slots := 0, locals := 0 })).room s m args below meth c H locs 0 0 Q (F0 m 37 ls [])) :
    ∀ (f m1 : Nat) (ls : Array Slot), m1 + f < 1000 → (∃ j, j < f ∧ x3 ((m1 + j) % 8) ≠ 0) → mo_nx x3 f m1 = T → lv_has ls 5 [(3, .int (nI m1)), (4, .int (nI k)), (0, .ref (a 0)), (1, .int (nI g)), (2, .int (nI b))] → W p l e (headSpec w_M_owner ({ frames := 0, cells := 0, slots := 0, locals := 0 })).room s m args below meth c H locs 0 0 Q (F0 m 14 ls []) := by
  intro f
  induction f with
  | zero =>
    intro m1 ls _ hj
    obtain ⟨j, hj, _⟩ := hj
    exact absurd hj (Nat.not_lt_zero j)
  | succ f ih =>
    intro m1 ls hm hj hT hl
    refine lv_aload_n hx hb d_M_owner_14 rfl (lv_at hl 2 rfl) ?_
    refine va_get (D := (dC, dI)) (ci := 3) (v := .ref (a 4)) (C := R_M) (T := F_M) (N := 12) hx hb hw i_M hown hK hP 0 rfl rfl 8 (by decide) (hw _ kb_344) (fun _ h9 => h9) rfl d_M_owner_15 ?_
    refine lv_bipush (v := 8) hx hb d_M_owner_18 (by decide) ?_
    refine lv_iload_n hx hb d_M_owner_20 rfl (lv_at hl 3 rfl) ?_
    refine lv_imul hx hb d_M_owner_21 ?_
    refine lv_iload_n hx hb d_M_owner_22 rfl (lv_at hl 0 rfl) ?_
    refine lv_bipush (v := 8) hx hb d_M_owner_23 (by decide) ?_
    refine lv_irem hx hb d_M_owner_25 (by decide) ?_
    rw [m_rem (by omega)]
    refine lv_iadd hx hb d_M_owner_26 ?_
    refine ml_me (i := (m1 % 8)) hx hb hK hP hg (Nat.mod_lt _ (by decide)) d_M_owner_27 ?_
    refine lv_if_ne (tgt := 37) hx hb d_M_owner_28 (by decide) (fun c_1 => ?_) (fun c_1 => ?_)
    · rw [mo_nx, if_neg c_1] at hT
      subst hT
      exact kk ls (lv_sub hl [0, 1, 2, 3, 4] rfl)
    · refine lv_iinc (v := (nI m1) + 1) (lv' := [(3, .int ((nI m1) + 1)), (4, .int (nI k)), (0, .ref (a 0)), (1, .int (nI g)), (2, .int (nI b))]) hx hb d_M_owner_31 hl (k := 0) rfl rfl (by decide) rfl (fun ls hl => ?_)
      refine lv_goto (tgt := 14) hx hb d_M_owner_34 (by decide) ?_
      refine ih (m1 + 1) ls (by omega) ?_ ?_ ?_
      · obtain ⟨j, hj, hne⟩ := hj
        by_cases h0 : j = 0
        · subst h0; exact absurd c_1 hne
        · refine ⟨j - 1, by omega, ?_⟩
          rw [show m1 + 1 + (j - 1) = m1 + j by omega]; exact hne
      · rw [← hT, mo_nx, if_pos c_1]
      · rw [nI_succ]; exact lv_sub hl [0, 1, 2, 3, 4] rfl
set_option maxHeartbeats 4000000 in
set_option maxRecDepth 100000 in
theorem lp_M_own2 {p : Program} {l : Launch} {e : Env} {s : State} {m : MethodId} {args : Array Value} {below : List Frame} {meth : Method} {c : Code} {Q : State → Prop} {dC : Nat → ClassId} {dI : Nat → Nat → Nat} {cI cJ cZ : ClassId} {a : Nat → Nat} (hnd : (mad a).Nodup) {co lg tm rm no : Int32} {M : Nat → mGV} {g b : Nat} (hg : g < 8) {x0 x1 x2 : Int32} {x3 x4 x5 : Nat → Int32} {x6 : Nat → Int64} (hb8 : b < 8) (hne : ∃ q, q < 8 ∧ x3 q ≠ 0) {H : Heap} {locs : List Loc} (hx : p.tables.exec = Jvm.exec) (hb : c.code = b_M_owner) (hml : c.maxLocals = 5) (hown : s.vm.findClass R_M = some m.cls) (hw : ∀ w ∈ kb_B, w.before args s = true) (hK : va_K (dC, dI) vwCl (mty cI cJ cZ) s) (hP : va_P (dC, dI) vwCl (mw cI cJ cZ a co lg tm rm no (va_up M g (x0, x1, x2, x3, x4, x5, x6))) H)
    (kk : ∀ ls : Array Slot, lv_has ls 5 [(4, .int (nI (b + 1))), (3, .int (nI (mo_s x3 (b + 1)) - 1)), (0, .ref (a 0)), (1, .int (nI g)), (2, .int (nI b))] → W p l e (headSpec w_M_owner ({ frames := 0, cells := 0, slots := 0, locals := 0 })).room s m args below meth c H locs 0 0 Q (F0 m 43 ls [])) :
    ∀ (j k : Nat) (ls : Array Slot), k + j = b + 1 → lv_has ls 5 [(4, .int (nI k)), (3, .int (nI (mo_s x3 k) - 1)), (0, .ref (a 0)), (1, .int (nI g)), (2, .int (nI b))] → W p l e (headSpec w_M_owner ({ frames := 0, cells := 0, slots := 0, locals := 0 })).room s m args below meth c H locs 0 0 Q (F0 m 5 ls []) := by
  intro j
  induction j with
  | zero =>
    intro k ls hk hl
    have hkb : k = b + 1 := by omega
    subst hkb
    refine lv_iload hx hb d_M_owner_5 (lv_at hl 0 rfl) ?_
    refine lv_iload_n hx hb d_M_owner_7 rfl (lv_at hl 4 rfl) ?_
    refine lv_icmp_gt (tgt := 43) hx hb d_M_owner_8 (by decide) (fun c_1 => ?_) (fun c_1 => ?_)
    · exact kk ls hl
    · exact absurd (nI_lt (a := b) (b := b + 1) (by omega) (by omega)) c_1
  | succ j ih =>
    intro k ls hk hl
    refine lv_iload hx hb d_M_owner_5 (lv_at hl 0 rfl) ?_
    refine lv_iload_n hx hb d_M_owner_7 rfl (lv_at hl 4 rfl) ?_
    refine lv_icmp_gt (tgt := 43) hx hb d_M_owner_8 (by decide) (fun c_1 => ?_) (fun c_1 => ?_)
    · exact absurd c_1 (nI_nlt (by omega) (by omega))
    · refine lv_iinc (v := (nI (mo_s x3 k) - 1) + 1) (lv' := [(3, .int ((nI (mo_s x3 k) - 1) + 1)), (4, .int (nI k)), (0, .ref (a 0)), (1, .int (nI g)), (2, .int (nI b))]) hx hb d_M_owner_11 hl (k := 1) rfl rfl (by decide) rfl (fun ls hl => ?_)
      have hms := mo_s_le x3 k
      have hl : lv_has ls 5 [(3, .int (nI (mo_s x3 k))), (4, .int (nI k)), (0, .ref (a 0)), (1, .int (nI g)), (2, .int (nI b))] := by rw [m_inc] at hl; exact lv_sub hl [0, 1, 2, 3, 4] rfl
      refine lp_M_own1 hnd hg hx hb hml hown hw hK hP (fun ls hl => ?_) 8 (mo_s x3 k) ls (by omega) (mo_ex hne _) rfl hl
      refine lv_iinc (v := (nI k) + 1) (lv' := [(4, .int ((nI k) + 1)), (3, .int (nI (mo_nx x3 8 (mo_s x3 k)))), (0, .ref (a 0)), (1, .int (nI g)), (2, .int (nI b))]) hx hb d_M_owner_37 hl (k := 1) rfl rfl (by decide) rfl (fun ls hl => ?_)
      refine lv_goto (tgt := 5) hx hb d_M_owner_40 (by decide) ?_
      refine ih (k + 1) ls (by omega) ?_
      rw [nI_succ, show nI (mo_s x3 (k + 1)) - 1 = nI (mo_nx x3 8 (mo_s x3 k)) from nI_pred _]
      exact lv_sub hl [0, 1, 2, 3, 4] rfl
set_option maxHeartbeats 4000000 in
set_option maxRecDepth 100000 in
theorem c_M_owner (l : Launch) {dC : Nat → ClassId} {dI : Nat → Nat → Nat} {cI cJ cZ : ClassId} {a : Nat → Nat} (hnd : (mad a).Nodup) (co lg tm rm no : Int32) (M : Nat → mGV) {g : Nat} (hg : g < 8) (x0 x1 x2 : Int32) (x3 x4 x5 : Nat → Int32) (x6 : Nat → Int64) {b : Nat} (hb8 : b < 8) (hne : ∃ q, q < 8 ∧ x3 q ≠ 0) (sz : Nat) : Met l y_M_owner w_M_owner ({ frames := 0, cells := 0, slots := 0, locals := 0 }) (kPre (dC, dI) vwCl (mty cI cJ cZ) [.ref (a 0), .int (nI g), .int (nI b)] sz (mw cI cJ cZ a co lg tm rm no (va_up M g (x0, x1, x2, x3, x4, x5, x6)))) (vp_Si (fun r => r = nI (mo x3 b))) 0 0 (fun _ => False) := by
  refine Met.ofW (cc := b_M_owner) (maxL := 5) (ret := (some .int)) (by decide) rfl ?_
  intro p e s m args below meth c s₁ B hml hv
  obtain ⟨rfl, hsz, hP, hK⟩ := hv
  have hx := B.exec
  have hb := B.bytes
  have hr := B.returns
  have hts := atoms_spec (ws := w_M_owner) B.pre
  have hw := fun (w : Cond) (h : w ∈ kb_B) => hts w (List.mem_cons_of_mem _ h)
  have hown : s.vm.findClass R_M = some m.cls := findClass_of_methodNamed B.named
  have hlocks := B.notSynchronized
  subst hsz
  have hl := lv_entry ([.ref (a 0), .int (nI g), .int (nI b)]) (n := 5) (Nat.le_of_ble_eq_true rfl)
  rw [lg_entry_eq]
  generalize (lg_sl ([.ref (a 0), .int (nI g), .int (nI b)]) ++ List.replicate (5 - (lg_sl ([.ref (a 0), .int (nI g), .int (nI b)])).length) Slot.unset).toArray = ls at hl ⊢
  have hl : lv_has ls 5 [(0, .ref (a 0)), (1, .int (nI g)), (2, .int (nI b))] := hl
  refine lv_iconst (v := (-1)) hx hb d_M_owner_0 (by decide) ?_
  refine lv_istore_n (lv' := [(3, .int (-1)), (0, .ref (a 0)), (1, .int (nI g)), (2, .int (nI b))]) hx hb d_M_owner_1 rfl hl (by decide) rfl (fun ls hl => ?_)
  refine lv_iconst (v := 0) hx hb d_M_owner_2 (by decide) ?_
  refine lv_istore (lv' := [(4, .int 0), (3, .int (-1)), (0, .ref (a 0)), (1, .int (nI g)), (2, .int (nI b))]) hx hb d_M_owner_3 hl (by decide) rfl (fun ls hl => ?_)
  refine lp_M_own2 hnd hg hb8 hne hx hb hml hown hw hK hP (fun ls hl => ?_) (b + 1) 0 ls (Nat.zero_add _) (lv_sub hl [0, 1, 2, 3, 4] rfl)
  have hms := mo_s_le x3 b
  have hmn := mo_nx_le x3 8 (mo_s x3 b)
  rw [show nI (mo_s x3 (b + 1)) - 1 = nI (mo_nx x3 8 (mo_s x3 b)) from nI_pred _] at hl
  refine lv_iload_n hx hb d_M_owner_43 rfl (lv_at hl 1 rfl) ?_
  refine lv_bipush (v := 8) hx hb d_M_owner_44 (by decide) ?_
  refine lv_irem hx hb d_M_owner_46 (by decide) ?_
  rw [m_rem (by omega)]
  exact W.iret (v := (nI ((mo_nx x3 8 (mo_s x3 b)) % 8))) hx hb hr (fun t ht hW => ⟨_, rfl, by first | (simp only [mo]; done) | (simp [mo]; done), ht⟩) (fun q h => by cases h) d_M_owner_47
end
section
/-! the reference's calls: the answer, and its state behind it, where the arguments are right -/
def mg_in1 (q : Nat) : mGV → mGV
  | (x0, x1, x2, x3, x4, x5, x6) => (x0, x1, x2, upd x3 q 1, x4, x5, x6)
def mg_in2 (q : Nat) (t : Int32) : mGV → mGV
  | (x0, x1, x2, x3, x4, x5, x6) => (x0, x1, x2, x3, upd x4 q 1, upd x5 q t, x6)
def mg_take (q : Nat) (t : Int32) (y : mGV) : mGV := if y.1 = 1 then mg_in2 q t (mg_in1 q y) else mg_in2 q t (mg_mix t (mg_in1 q y))
def mg_rid (q : Nat) : mGV → mGV
  | (x0, x1, x2, x3, x4, x5, x6) => (x0, x1, x2, upd x3 q 0, upd x4 q 0, x5, x6)
def mg_hear (q : Nat) (t : Int32) : mGV → mGV
  | (x0, x1, x2, x3, x4, x5, x6) => (x0, x1, x2, x3, x4, upd x5 q t, x6)
def mg_off (q : Nat) (v : Int64) : mGV → mGV
  | (x0, x1, x2, x3, x4, x5, x6) => (x0, x1, x2, x3, x4, x5, vp_updL x6 q v)
def md_join (a b : Nat) : mDV → Int32 × mDV
  | (_, lg, tm, rm, no, M) => (if (mg_done tm rm no (mg_take b tm (M a))).1.1 = 2 then (mg_done tm rm no (mg_take b tm (M a))).1.2.1 else (-1),
      (0, lg, tm, (mg_done tm rm no (mg_take b tm (M a))).2.1, (mg_done tm rm no (mg_take b tm (M a))).2.2, va_up M a (mg_done tm rm no (mg_take b tm (M a))).1))
def md_leave (a b : Nat) : mDV → Int32 × mDV
  | (_, lg, tm, rm, no, M) => if (M a).2.2.2.1 b = 0 then (-8, (0, lg, tm, rm, no, M)) else
      (1, (0, lg, tm, (mg_done tm rm no (mg_wo tm (mg_rid b (M a)))).2.1, (mg_done tm rm no (mg_wo tm (mg_rid b (M a)))).2.2, va_up M a (mg_done tm rm no (mg_wo tm (mg_rid b (M a)))).1))
def md_beat (a b : Nat) (n : Int32) : mDV → Int32 × mDV
  | (_, lg, tm, rm, no, M) => if (M a).2.2.2.1 b = 0 then (-8, (0, lg, tm, rm, no, M)) else if n = (M a).2.1 then
      (if (M a).1 = 1 then (if (M a).2.2.2.2.1 b = 0 then 1 else 0) else 0, (0, lg, tm, rm, no, va_up M a (mg_hear b tm (M a)))) else (-9, (0, lg, tm, rm, no, M))
def md_commit (a b : Nat) (n : Int32) (q : Nat) (v : Int64) : mDV → Int32 × mDV
  | (_, lg, tm, rm, no, M) => if (M a).2.2.2.1 b = 0 then (-8, (0, lg, tm, rm, no, M)) else if n = (M a).2.1 then (if (M a).1 = 2 then (if nI (mo (M a).2.2.2.1 q) = nI b then
      (if (mn_take rm no).1 = 0 then (-2, (0, lg, tm, (mn_take rm no).2.1, (mn_take rm no).2.2, M)) else (0, (0, lg, tm, (mn_take rm no).2.1, (mn_take rm no).2.2, va_up M a (mg_hear b tm (mg_off q v (M a))))))
      else (-11, (0, lg, tm, rm, no, M))) else (-10, (0, lg, tm, rm, no, M))) else (-9, (0, lg, tm, rm, no, M))
def mg_lim (t : Int32) (y : mGV) : Int32 := if y.1 = 1 then (if y.2.2.1 ≤ t then 0 else y.2.2.1 - t) else 0
def mg_what (t w : Int32) (y : mGV) : Int32 := if 2 ≤ w then (if w = 4 then mg_lim t y else mbd (mg_is w y.1 y.2.2.2.1 y.2.2.2.2.1) 8 0) else if w = 0 then y.2.1 else y.1
def mg_ow (me : Nat → Int32) (b k : Nat) : Int32 := if nI (mo me k) = nI b then 1 else 0
def mg_sh (b n : Nat) (y : mGV) : Int32 := if y.1 = 2 then (if y.2.2.2.1 b = 0 then 0 else mbd (mg_ow y.2.2.2.1 b) n 0) else 0
set_option maxHeartbeats 4000000 in
set_option maxRecDepth 100000 in
theorem c_M_join (l : Launch) {dC : Nat → ClassId} {dI : Nat → Nat → Nat} {cI cJ cZ : ClassId} {a : Nat → Nat} (hnd : (mad a).Nodup) (co lg tm rm no : Int32) (M : Nat → mGV) (p0 : Int32) (p1 : Int32) (sz : Nat) : Met l y_M_join w_M_join ({ frames := 2, cells := 0, slots := 0, locals := 60 }) (kPre (dC, dI) vwCl (mty cI cJ cZ) [.ref (a 0), .int p0, .int p1] sz (mw cI cJ cZ a co lg tm rm no M)) (va_Qi (fun (r : Int32) (u : mDV) => ((vp_in p0 8 ∧ vp_in p1 8) ∧ (r, u) = md_join p0.toNatClampNeg p1.toNatClampNeg (co, lg, tm, rm, no, M)) ∨ (¬ (vp_in p0 8 ∧ vp_in p1 8) ∧ u = (1, lg, tm, rm, no, M))) (fun u t => va_P (dC, dI) vwCl (mwv cI cJ cZ a u) t.heap) (kA (mad a) sz)) 0 0 (kA (mad a) sz) := by
  refine Met.ofW (cc := b_M_join) (maxL := 3) (ret := (some .int)) (by decide) rfl ?_
  intro p e s m args below meth c s₁ B hml hv
  obtain ⟨rfl, hsz, hP, hK⟩ := hv
  have hx := B.exec
  have hb := B.bytes
  have hr := B.returns
  have hts := atoms_spec (ws := w_M_join) B.pre
  have hw := fun (w : Cond) (h : w ∈ kb_B) => hts w (List.mem_cons_of_mem _ h)
  have hown : s.vm.findClass R_M = some m.cls := findClass_of_methodNamed B.named
  have hlocks := B.notSynchronized
  subst hsz
  generalize hAe : kA (mad a) s.heap.size = A
  have hA : ∀ q : Nat, s.heap.size ≤ q → A q := fun q h => by rw [← hAe]; exact Or.inr h
  have hAL : ∀ q ∈ (mad a), A q := fun q h => by rw [← hAe]; exact Or.inl h
  have hS : va_S A s.heap s.heap [] := va_S.rf
  have hl := lv_entry ([.ref (a 0), .int p0, .int p1]) (n := 3) (Nat.le_of_ble_eq_true rfl)
  rw [lg_entry_eq]
  generalize (lg_sl ([.ref (a 0), .int p0, .int p1]) ++ List.replicate (3 - (lg_sl ([.ref (a 0), .int p0, .int p1])).length) Slot.unset).toArray = ls at hl ⊢
  have hl : lv_has ls 3 [(0, .ref (a 0)), (1, .int p0), (2, .int p1)] := hl
  refine lv_aload_n hx hb d_M_join_0 rfl (lv_at hl 0 rfl) ?_
  refine lv_iload_n hx hb d_M_join_1 rfl (lv_at hl 1 rfl) ?_
  refine vp_callSi (W.runS (As := [.int p0]) (rest := [.ref (a 0)]) ⟨hx, hb, hml, hown, hw⟩ (c_M_isOne l p0) (va_cwS 1 hw (kb_S kb_382 kb_383 kb_6 kb_384) rfl rfl rfl (by decide +kernel) ⟨Nat.le_of_ble_eq_true rfl, Nat.le_of_ble_eq_true rfl⟩) preEq rfl rfl hl.1 rfl (lv_room (Nat.le_of_ble_eq_true rfl)) d_M_join_2 ⟨Nat.le_of_ble_eq_true rfl, Nat.le_of_ble_eq_true rfl⟩) (fun r_1 er_1 => ?_)
  rcases er_1 with ⟨rfl, hp_p0⟩ | ⟨rfl, hp_p0⟩
  · skip
    obtain ⟨g, hg, rfl⟩ := vp_in_of hp_p0 (by decide)
    have hcg : (nI g).toNatClampNeg = g := nI_clamp (by omega)
    refine lv_if_eq (tgt := 19) hx hb d_M_join_5 (by decide) (fun c_1 => absurd c_1 (by decide)) (fun c_1 => ?_)
    refine lv_iload_n hx hb d_M_join_8 rfl (lv_at hl 2 rfl) ?_
    refine vp_callSi (W.runS (As := [.int p1]) (rest := [.ref (a 0)]) ⟨hx, hb, hml, hown, hw⟩ (c_M_isOne l p1) (va_cwS 1 hw (kb_S kb_382 kb_383 kb_6 kb_384) rfl rfl rfl (by decide +kernel) ⟨Nat.le_of_ble_eq_true rfl, Nat.le_of_ble_eq_true rfl⟩) preEq rfl rfl hl.1 rfl (lv_room (Nat.le_of_ble_eq_true rfl)) d_M_join_9 ⟨Nat.le_of_ble_eq_true rfl, Nat.le_of_ble_eq_true rfl⟩) (fun r_2 er_2 => ?_)
    rcases er_2 with ⟨rfl, hp_p1⟩ | ⟨rfl, hp_p1⟩
    · skip
      obtain ⟨q, hq, rfl⟩ := vp_in_of hp_p1 (by decide)
      have hcq : (nI q).toNatClampNeg = q := nI_clamp (by omega)
      refine lv_if_eq (tgt := 19) hx hb d_M_join_12 (by decide) (fun c_2 => absurd c_2 (by decide)) (fun c_2 => ?_)
      refine lv_iconst (v := 1) hx hb d_M_join_15 (by decide) ?_
      refine lv_goto (tgt := 20) hx hb d_M_join_16 (by decide) ?_
      refine kc_i (Wd := mwv cI cJ cZ a) (va_runV (As := [.int 1]) (rest := []) ⟨hx, hb, hml, hown, hw⟩ (c_M_goes1 l hnd co lg tm rm no M _) (cwV 1 hw (kb_V kb_385 kb_387 kb_s5 kb_6 kb_388) rfl rfl rfl (by decide +kernel) ⟨Nat.le_of_ble_eq_true rfl, Nat.le_of_ble_eq_true rfl⟩) (kPV (va_recv hK hP (ci := 3) (q0 := 0) rfl rfl) hP hK) rfl rfl hl.1 rfl (lv_room (Nat.le_of_ble_eq_true rfl)) d_M_join_20 ⟨Nat.le_of_ble_eq_true rfl, Nat.le_of_ble_eq_true rfl⟩) hS hA hAL (fun r_4 u_3 H locs hw9 hP _ _ hS => ?_)
      obtain ⟨rfl, rfl⟩ := hw9
      have hP : va_P (dC, dI) vwCl (mw cI cJ cZ a 0 lg tm rm no M) _ := hP
      rw [← mv_at M g] at hP
      generalize hMg : M g = gv at hP
      obtain ⟨x0, x1, x2, x3, x4, x5, x6⟩ := gv
      have hMu : va_up M g (x0, x1, x2, x3, x4, x5, x6) = M := by rw [← hMg]; exact mv_at M g
      refine lv_if_ne (tgt := 28) hx hb d_M_join_23 (by decide) (fun c_3 => ?_) (fun c_3 => absurd c_3 (by decide))
      refine lv_aload_n hx hb d_M_join_28 rfl (lv_at hl 0 rfl) ?_
      refine va_get (D := (dC, dI)) (ci := 3) (v := .ref (a 4)) (C := R_M) (T := F_M) (N := 12) hx hb hw i_M hown hK hP 0 rfl rfl 8 (by decide) (hw _ kb_344) (fun _ h9 => h9) rfl d_M_join_29 ?_
      refine lv_bipush (v := 8) hx hb d_M_join_32 (by decide) ?_
      refine lv_iload_n hx hb d_M_join_34 rfl (lv_at hl 1 rfl) ?_
      refine lv_imul hx hb d_M_join_35 ?_
      refine lv_iload_n hx hb d_M_join_36 rfl (lv_at hl 2 rfl) ?_
      refine lv_iadd hx hb d_M_join_37 ?_
      refine lv_iconst (v := 1) hx hb d_M_join_38 (by decide) ?_
      refine ms_me (i := q) (v := 1) hx hb hK hP hnd hAL hS hg hq d_M_join_39 (fun H locs hP hS => ?_)
      rw [vz1] at hP
      refine lv_aload_n hx hb d_M_join_40 rfl (lv_at hl 0 rfl) ?_
      refine va_get (D := (dC, dI)) (ci := 3) (v := .ref (a 1)) (C := R_M) (T := F_M) (N := 12) hx hb hw i_M hown hK hP 0 rfl rfl 5 (by decide) (hw _ kb_341) (fun _ h9 => h9) rfl d_M_join_41 ?_
      refine lv_iload_n hx hb d_M_join_44 rfl (lv_at hl 1 rfl) ?_
      refine ml_st hx hb hK hP hg d_M_join_45 ?_
      refine lv_iconst (v := 1) hx hb d_M_join_46 (by decide) ?_
      refine lv_icmp_eq (tgt := 55) hx hb d_M_join_47 (by decide) (fun c_4 => ?_) (fun c_4 => ?_)
      · refine lv_aload_n hx hb d_M_join_55 rfl (lv_at hl 0 rfl) ?_
        refine va_get (D := (dC, dI)) (ci := 3) (v := .ref (a 5)) (C := R_M) (T := F_M) (N := 12) hx hb hw i_M hown hK hP 0 rfl rfl 9 (by decide) (hw _ kb_345) (fun _ h9 => h9) rfl d_M_join_56 ?_
        refine lv_bipush (v := 8) hx hb d_M_join_59 (by decide) ?_
        refine lv_iload_n hx hb d_M_join_61 rfl (lv_at hl 1 rfl) ?_
        refine lv_imul hx hb d_M_join_62 ?_
        refine lv_iload_n hx hb d_M_join_63 rfl (lv_at hl 2 rfl) ?_
        refine lv_iadd hx hb d_M_join_64 ?_
        refine lv_iconst (v := 1) hx hb d_M_join_65 (by decide) ?_
        refine ms_jo (i := q) (v := 1) hx hb hK hP hnd hAL hS hg hq d_M_join_66 (fun H locs hP hS => ?_)
        rw [vz1] at hP
        refine lv_aload_n hx hb d_M_join_67 rfl (lv_at hl 0 rfl) ?_
        refine va_get (D := (dC, dI)) (ci := 3) (v := .ref (a 6)) (C := R_M) (T := F_M) (N := 12) hx hb hw i_M hown hK hP 0 rfl rfl 10 (by decide) (hw _ kb_346) (fun _ h9 => h9) rfl d_M_join_68 ?_
        refine lv_bipush (v := 8) hx hb d_M_join_71 (by decide) ?_
        refine lv_iload_n hx hb d_M_join_73 rfl (lv_at hl 1 rfl) ?_
        refine lv_imul hx hb d_M_join_74 ?_
        refine lv_iload_n hx hb d_M_join_75 rfl (lv_at hl 2 rfl) ?_
        refine lv_iadd hx hb d_M_join_76 ?_
        refine lv_aload_n hx hb d_M_join_77 rfl (lv_at hl 0 rfl) ?_
        refine va_get (D := (dC, dI)) (ci := 3) (v := .int tm) (C := R_M) (T := F_M) (N := 12) hx hb hw i_M hown hK hP 0 rfl rfl 2 (by decide) (hw _ kb_338) (fun _ h9 => h9) rfl d_M_join_78 ?_
        refine ms_he (i := q) (v := tm) hx hb hK hP hnd hAL hS hg hq d_M_join_81 (fun H locs hP hS => ?_)
        refine lv_aload_n hx hb d_M_join_82 rfl (lv_at hl 0 rfl) ?_
        refine lv_iload_n hx hb d_M_join_83 rfl (lv_at hl 1 rfl) ?_
        refine kc_v (Wd := mwv cI cJ cZ a) (va_runV (As := [.int (nI g)]) (rest := []) ⟨hx, hb, hml, hown, hw⟩ (c_M_mayBeDone l hnd 0 lg tm rm no M hg x0 x1 x2 (upd x3 q 1) (upd x4 q 1) (upd x5 q tm) x6 _) (cwV 1 hw (kb_V kb_393 kb_395 kb_s7 kb_6 kb_396) rfl rfl rfl (by decide +kernel) ⟨Nat.le_of_ble_eq_true rfl, Nat.le_of_ble_eq_true rfl⟩) (kPV (va_recv hK hP (ci := 3) (q0 := 0) rfl rfl) hP hK) rfl rfl hl.1 rfl (lv_room (Nat.le_of_ble_eq_true rfl)) d_M_join_84 ⟨Nat.le_of_ble_eq_true rfl, Nat.le_of_ble_eq_true rfl⟩) hS hA hAL (fun u_5 H locs hw9 hP _ _ hS => ?_)
        subst hw9
        have hP : va_P (dC, dI) vwCl (mw cI cJ cZ a 0 lg tm (mg_done tm rm no (x0, x1, x2, (upd x3 q 1), (upd x4 q 1), (upd x5 q tm), x6)).2.1 (mg_done tm rm no (x0, x1, x2, (upd x3 q 1), (upd x4 q 1), (upd x5 q tm), x6)).2.2 (va_up M g (mg_done tm rm no (x0, x1, x2, (upd x3 q 1), (upd x4 q 1), (upd x5 q tm), x6)).1)) _ := hP
        generalize hq_7 : mg_done tm rm no (x0, x1, x2, (upd x3 q 1), (upd x4 q 1), (upd x5 q tm), x6) = z_7 at hP
        obtain ⟨⟨y7_0, y7_1, y7_2, y7_3, y7_4, y7_5, y7_6⟩, rm_7, no_7⟩ := z_7
        have hP : va_P (dC, dI) vwCl (mw cI cJ cZ a 0 lg tm rm_7 no_7 (va_up M g (y7_0, y7_1, y7_2, y7_3, y7_4, y7_5, y7_6))) _ := hP
        refine lv_aload_n hx hb d_M_join_87 rfl (lv_at hl 0 rfl) ?_
        refine va_get (D := (dC, dI)) (ci := 3) (v := .ref (a 1)) (C := R_M) (T := F_M) (N := 12) hx hb hw i_M hown hK hP 0 rfl rfl 5 (by decide) (hw _ kb_341) (fun _ h9 => h9) rfl d_M_join_88 ?_
        refine lv_iload_n hx hb d_M_join_91 rfl (lv_at hl 1 rfl) ?_
        refine ml_st hx hb hK hP hg d_M_join_92 ?_
        refine lv_iconst (v := 2) hx hb d_M_join_93 (by decide) ?_
        refine lv_icmp_ne (tgt := 106) hx hb d_M_join_94 (by decide) (fun c_5 => ?_) (fun c_5 => ?_)
        · refine lv_iconst (v := (-1)) hx hb d_M_join_106 (by decide) ?_
          exact W.iret (v := (-1)) hx hb hr (fun t ht hW => ⟨⟨_, (0, lg, tm, rm_7, no_7, (va_up M g (y7_0, y7_1, y7_2, y7_3, y7_4, y7_5, y7_6))), rfl, Or.inl ⟨⟨hp_p0, hp_p1⟩, by first | (simp only [md_join, mg_take, mg_in1, mg_in2, mg_mix, hcg, hcq, hMg, hMu, if_pos c_4, hq_7, if_neg c_5]; done) | (simp [md_join, mg_take, mg_in1, mg_in2, mg_mix, hcg, hcq, hMg, hMu, c_4, hq_7, c_5]; done)⟩, by show va_P _ _ _ t.heap; rw [ht]; exact hP⟩, hS.F ht⟩) hS.2.2 d_M_join_107
        · refine lv_aload_n hx hb d_M_join_97 rfl (lv_at hl 0 rfl) ?_
          refine va_get (D := (dC, dI)) (ci := 3) (v := .ref (a 2)) (C := R_M) (T := F_M) (N := 12) hx hb hw i_M hown hK hP 0 rfl rfl 6 (by decide) (hw _ kb_342) (fun _ h9 => h9) rfl d_M_join_98 ?_
          refine lv_iload_n hx hb d_M_join_101 rfl (lv_at hl 1 rfl) ?_
          refine ml_ge hx hb hK hP hg d_M_join_102 ?_
          refine lv_goto (tgt := 107) hx hb d_M_join_103 (by decide) ?_
          exact W.iret (v := y7_1) hx hb hr (fun t ht hW => ⟨⟨_, (0, lg, tm, rm_7, no_7, (va_up M g (y7_0, y7_1, y7_2, y7_3, y7_4, y7_5, y7_6))), rfl, Or.inl ⟨⟨hp_p0, hp_p1⟩, by first | (simp only [md_join, mg_take, mg_in1, mg_in2, mg_mix, hcg, hcq, hMg, hMu, if_pos c_4, hq_7, if_pos c_5]; done) | (simp [md_join, mg_take, mg_in1, mg_in2, mg_mix, hcg, hcq, hMg, hMu, c_4, hq_7, c_5]; done)⟩, by show va_P _ _ _ t.heap; rw [ht]; exact hP⟩, hS.F ht⟩) hS.2.2 d_M_join_107
      · refine lv_aload_n hx hb d_M_join_50 rfl (lv_at hl 0 rfl) ?_
        refine lv_iload_n hx hb d_M_join_51 rfl (lv_at hl 1 rfl) ?_
        refine kc_v (Wd := mwv cI cJ cZ a) (va_runV (As := [.int (nI g)]) (rest := []) ⟨hx, hb, hml, hown, hw⟩ (c_M_mixes l hnd 0 lg tm rm no M hg x0 x1 x2 (upd x3 q 1) x4 x5 x6 _) (cwV 1 hw (kb_V kb_389 kb_391 kb_s6 kb_6 kb_392) rfl rfl rfl (by decide +kernel) ⟨Nat.le_of_ble_eq_true rfl, Nat.le_of_ble_eq_true rfl⟩) (kPV (va_recv hK hP (ci := 3) (q0 := 0) rfl rfl) hP hK) rfl rfl hl.1 rfl (lv_room (Nat.le_of_ble_eq_true rfl)) d_M_join_52 ⟨Nat.le_of_ble_eq_true rfl, Nat.le_of_ble_eq_true rfl⟩) hS hA hAL (fun u_8 H locs hw9 hP _ _ hS => ?_)
        subst hw9
        have hP : va_P (dC, dI) vwCl (mw cI cJ cZ a 0 lg tm rm no (va_up M g (1, x1, tm + 20, upd x3 q 1, mz x4 8, x5, x6))) _ := hP
        refine lv_aload_n hx hb d_M_join_55 rfl (lv_at hl 0 rfl) ?_
        refine va_get (D := (dC, dI)) (ci := 3) (v := .ref (a 5)) (C := R_M) (T := F_M) (N := 12) hx hb hw i_M hown hK hP 0 rfl rfl 9 (by decide) (hw _ kb_345) (fun _ h9 => h9) rfl d_M_join_56 ?_
        refine lv_bipush (v := 8) hx hb d_M_join_59 (by decide) ?_
        refine lv_iload_n hx hb d_M_join_61 rfl (lv_at hl 1 rfl) ?_
        refine lv_imul hx hb d_M_join_62 ?_
        refine lv_iload_n hx hb d_M_join_63 rfl (lv_at hl 2 rfl) ?_
        refine lv_iadd hx hb d_M_join_64 ?_
        refine lv_iconst (v := 1) hx hb d_M_join_65 (by decide) ?_
        refine ms_jo (i := q) (v := 1) hx hb hK hP hnd hAL hS hg hq d_M_join_66 (fun H locs hP hS => ?_)
        rw [vz1] at hP
        refine lv_aload_n hx hb d_M_join_67 rfl (lv_at hl 0 rfl) ?_
        refine va_get (D := (dC, dI)) (ci := 3) (v := .ref (a 6)) (C := R_M) (T := F_M) (N := 12) hx hb hw i_M hown hK hP 0 rfl rfl 10 (by decide) (hw _ kb_346) (fun _ h9 => h9) rfl d_M_join_68 ?_
        refine lv_bipush (v := 8) hx hb d_M_join_71 (by decide) ?_
        refine lv_iload_n hx hb d_M_join_73 rfl (lv_at hl 1 rfl) ?_
        refine lv_imul hx hb d_M_join_74 ?_
        refine lv_iload_n hx hb d_M_join_75 rfl (lv_at hl 2 rfl) ?_
        refine lv_iadd hx hb d_M_join_76 ?_
        refine lv_aload_n hx hb d_M_join_77 rfl (lv_at hl 0 rfl) ?_
        refine va_get (D := (dC, dI)) (ci := 3) (v := .int tm) (C := R_M) (T := F_M) (N := 12) hx hb hw i_M hown hK hP 0 rfl rfl 2 (by decide) (hw _ kb_338) (fun _ h9 => h9) rfl d_M_join_78 ?_
        refine ms_he (i := q) (v := tm) hx hb hK hP hnd hAL hS hg hq d_M_join_81 (fun H locs hP hS => ?_)
        refine lv_aload_n hx hb d_M_join_82 rfl (lv_at hl 0 rfl) ?_
        refine lv_iload_n hx hb d_M_join_83 rfl (lv_at hl 1 rfl) ?_
        refine kc_v (Wd := mwv cI cJ cZ a) (va_runV (As := [.int (nI g)]) (rest := []) ⟨hx, hb, hml, hown, hw⟩ (c_M_mayBeDone l hnd 0 lg tm rm no M hg 1 x1 (tm + 20) (upd x3 q 1) (upd (mz x4 8) q 1) (upd x5 q tm) x6 _) (cwV 1 hw (kb_V kb_393 kb_395 kb_s7 kb_6 kb_396) rfl rfl rfl (by decide +kernel) ⟨Nat.le_of_ble_eq_true rfl, Nat.le_of_ble_eq_true rfl⟩) (kPV (va_recv hK hP (ci := 3) (q0 := 0) rfl rfl) hP hK) rfl rfl hl.1 rfl (lv_room (Nat.le_of_ble_eq_true rfl)) d_M_join_84 ⟨Nat.le_of_ble_eq_true rfl, Nat.le_of_ble_eq_true rfl⟩) hS hA hAL (fun u_10 H locs hw9 hP _ _ hS => ?_)
        subst hw9
        have hP : va_P (dC, dI) vwCl (mw cI cJ cZ a 0 lg tm (mg_done tm rm no (1, x1, (tm + 20), (upd x3 q 1), (upd (mz x4 8) q 1), (upd x5 q tm), x6)).2.1 (mg_done tm rm no (1, x1, (tm + 20), (upd x3 q 1), (upd (mz x4 8) q 1), (upd x5 q tm), x6)).2.2 (va_up M g (mg_done tm rm no (1, x1, (tm + 20), (upd x3 q 1), (upd (mz x4 8) q 1), (upd x5 q tm), x6)).1)) _ := hP
        generalize hq_12 : mg_done tm rm no (1, x1, (tm + 20), (upd x3 q 1), (upd (mz x4 8) q 1), (upd x5 q tm), x6) = z_12 at hP
        obtain ⟨⟨y12_0, y12_1, y12_2, y12_3, y12_4, y12_5, y12_6⟩, rm_12, no_12⟩ := z_12
        have hP : va_P (dC, dI) vwCl (mw cI cJ cZ a 0 lg tm rm_12 no_12 (va_up M g (y12_0, y12_1, y12_2, y12_3, y12_4, y12_5, y12_6))) _ := hP
        refine lv_aload_n hx hb d_M_join_87 rfl (lv_at hl 0 rfl) ?_
        refine va_get (D := (dC, dI)) (ci := 3) (v := .ref (a 1)) (C := R_M) (T := F_M) (N := 12) hx hb hw i_M hown hK hP 0 rfl rfl 5 (by decide) (hw _ kb_341) (fun _ h9 => h9) rfl d_M_join_88 ?_
        refine lv_iload_n hx hb d_M_join_91 rfl (lv_at hl 1 rfl) ?_
        refine ml_st hx hb hK hP hg d_M_join_92 ?_
        refine lv_iconst (v := 2) hx hb d_M_join_93 (by decide) ?_
        refine lv_icmp_ne (tgt := 106) hx hb d_M_join_94 (by decide) (fun c_6 => ?_) (fun c_6 => ?_)
        · refine lv_iconst (v := (-1)) hx hb d_M_join_106 (by decide) ?_
          exact W.iret (v := (-1)) hx hb hr (fun t ht hW => ⟨⟨_, (0, lg, tm, rm_12, no_12, (va_up M g (y12_0, y12_1, y12_2, y12_3, y12_4, y12_5, y12_6))), rfl, Or.inl ⟨⟨hp_p0, hp_p1⟩, by first | (simp only [md_join, mg_take, mg_in1, mg_in2, mg_mix, hcg, hcq, hMg, hMu, if_neg c_4, hq_12, if_neg c_6]; done) | (simp [md_join, mg_take, mg_in1, mg_in2, mg_mix, hcg, hcq, hMg, hMu, c_4, hq_12, c_6]; done)⟩, by show va_P _ _ _ t.heap; rw [ht]; exact hP⟩, hS.F ht⟩) hS.2.2 d_M_join_107
        · refine lv_aload_n hx hb d_M_join_97 rfl (lv_at hl 0 rfl) ?_
          refine va_get (D := (dC, dI)) (ci := 3) (v := .ref (a 2)) (C := R_M) (T := F_M) (N := 12) hx hb hw i_M hown hK hP 0 rfl rfl 6 (by decide) (hw _ kb_342) (fun _ h9 => h9) rfl d_M_join_98 ?_
          refine lv_iload_n hx hb d_M_join_101 rfl (lv_at hl 1 rfl) ?_
          refine ml_ge hx hb hK hP hg d_M_join_102 ?_
          refine lv_goto (tgt := 107) hx hb d_M_join_103 (by decide) ?_
          exact W.iret (v := y12_1) hx hb hr (fun t ht hW => ⟨⟨_, (0, lg, tm, rm_12, no_12, (va_up M g (y12_0, y12_1, y12_2, y12_3, y12_4, y12_5, y12_6))), rfl, Or.inl ⟨⟨hp_p0, hp_p1⟩, by first | (simp only [md_join, mg_take, mg_in1, mg_in2, mg_mix, hcg, hcq, hMg, hMu, if_neg c_4, hq_12, if_pos c_6]; done) | (simp [md_join, mg_take, mg_in1, mg_in2, mg_mix, hcg, hcq, hMg, hMu, c_4, hq_12, c_6]; done)⟩, by show va_P _ _ _ t.heap; rw [ht]; exact hP⟩, hS.F ht⟩) hS.2.2 d_M_join_107
    · skip
      refine lv_if_eq (tgt := 19) hx hb d_M_join_12 (by decide) (fun c_7 => ?_) (fun c_7 => absurd c_7 (by decide))
      refine lv_iconst (v := 0) hx hb d_M_join_19 (by decide) ?_
      refine kc_i (Wd := mwv cI cJ cZ a) (va_runV (As := [.int 0]) (rest := []) ⟨hx, hb, hml, hown, hw⟩ (c_M_goes0 l hnd co lg tm rm no M _) (cwV 1 hw (kb_V kb_385 kb_387 kb_s5 kb_6 kb_388) rfl rfl rfl (by decide +kernel) ⟨Nat.le_of_ble_eq_true rfl, Nat.le_of_ble_eq_true rfl⟩) (kPV (va_recv hK hP (ci := 3) (q0 := 0) rfl rfl) hP hK) rfl rfl hl.1 rfl (lv_room (Nat.le_of_ble_eq_true rfl)) d_M_join_20 ⟨Nat.le_of_ble_eq_true rfl, Nat.le_of_ble_eq_true rfl⟩) hS hA hAL (fun r_14 u_13 H locs hw9 hP _ _ hS => ?_)
      obtain ⟨rfl, rfl⟩ := hw9
      have hP : va_P (dC, dI) vwCl (mw cI cJ cZ a 1 lg tm rm no M) _ := hP
      refine lv_if_ne (tgt := 28) hx hb d_M_join_23 (by decide) (fun c_8 => absurd c_8 (by decide)) (fun c_8 => ?_)
      refine lv_iconst (v := 0) hx hb d_M_join_26 (by decide) ?_
      exact W.iret (v := 0) hx hb hr (fun t ht hW => ⟨⟨_, (1, lg, tm, rm, no, M), rfl, Or.inr ⟨fun h => hp_p1 h.2, rfl⟩, by show va_P _ _ _ t.heap; rw [ht]; exact hP⟩, hS.F ht⟩) hS.2.2 d_M_join_27
  · skip
    refine lv_if_eq (tgt := 19) hx hb d_M_join_5 (by decide) (fun c_9 => ?_) (fun c_9 => absurd c_9 (by decide))
    refine lv_iconst (v := 0) hx hb d_M_join_19 (by decide) ?_
    refine kc_i (Wd := mwv cI cJ cZ a) (va_runV (As := [.int 0]) (rest := []) ⟨hx, hb, hml, hown, hw⟩ (c_M_goes0 l hnd co lg tm rm no M _) (cwV 1 hw (kb_V kb_385 kb_387 kb_s5 kb_6 kb_388) rfl rfl rfl (by decide +kernel) ⟨Nat.le_of_ble_eq_true rfl, Nat.le_of_ble_eq_true rfl⟩) (kPV (va_recv hK hP (ci := 3) (q0 := 0) rfl rfl) hP hK) rfl rfl hl.1 rfl (lv_room (Nat.le_of_ble_eq_true rfl)) d_M_join_20 ⟨Nat.le_of_ble_eq_true rfl, Nat.le_of_ble_eq_true rfl⟩) hS hA hAL (fun r_16 u_15 H locs hw9 hP _ _ hS => ?_)
    obtain ⟨rfl, rfl⟩ := hw9
    have hP : va_P (dC, dI) vwCl (mw cI cJ cZ a 1 lg tm rm no M) _ := hP
    refine lv_if_ne (tgt := 28) hx hb d_M_join_23 (by decide) (fun c_10 => absurd c_10 (by decide)) (fun c_10 => ?_)
    refine lv_iconst (v := 0) hx hb d_M_join_26 (by decide) ?_
    exact W.iret (v := 0) hx hb hr (fun t ht hW => ⟨⟨_, (1, lg, tm, rm, no, M), rfl, Or.inr ⟨fun h => hp_p0 h.1, rfl⟩, by show va_P _ _ _ t.heap; rw [ht]; exact hP⟩, hS.F ht⟩) hS.2.2 d_M_join_27
set_option maxHeartbeats 4000000 in
set_option maxRecDepth 100000 in
theorem c_M_leave (l : Launch) {dC : Nat → ClassId} {dI : Nat → Nat → Nat} {cI cJ cZ : ClassId} {a : Nat → Nat} (hnd : (mad a).Nodup) (co lg tm rm no : Int32) (M : Nat → mGV) (p0 : Int32) (p1 : Int32) (sz : Nat) : Met l y_M_leave w_M_leave ({ frames := 2, cells := 0, slots := 0, locals := 60 }) (kPre (dC, dI) vwCl (mty cI cJ cZ) [.ref (a 0), .int p0, .int p1] sz (mw cI cJ cZ a co lg tm rm no M)) (va_Qi (fun (r : Int32) (u : mDV) => ((vp_in p0 8 ∧ vp_in p1 8) ∧ (r, u) = md_leave p0.toNatClampNeg p1.toNatClampNeg (co, lg, tm, rm, no, M)) ∨ (¬ (vp_in p0 8 ∧ vp_in p1 8) ∧ u = (1, lg, tm, rm, no, M))) (fun u t => va_P (dC, dI) vwCl (mwv cI cJ cZ a u) t.heap) (kA (mad a) sz)) 0 0 (kA (mad a) sz) := by
  refine Met.ofW (cc := b_M_leave) (maxL := 3) (ret := (some .int)) (by decide) rfl ?_
  intro p e s m args below meth c s₁ B hml hv
  obtain ⟨rfl, hsz, hP, hK⟩ := hv
  have hx := B.exec
  have hb := B.bytes
  have hr := B.returns
  have hts := atoms_spec (ws := w_M_leave) B.pre
  have hw := fun (w : Cond) (h : w ∈ kb_B) => hts w (List.mem_cons_of_mem _ h)
  have hown : s.vm.findClass R_M = some m.cls := findClass_of_methodNamed B.named
  have hlocks := B.notSynchronized
  subst hsz
  generalize hAe : kA (mad a) s.heap.size = A
  have hA : ∀ q : Nat, s.heap.size ≤ q → A q := fun q h => by rw [← hAe]; exact Or.inr h
  have hAL : ∀ q ∈ (mad a), A q := fun q h => by rw [← hAe]; exact Or.inl h
  have hS : va_S A s.heap s.heap [] := va_S.rf
  have hl := lv_entry ([.ref (a 0), .int p0, .int p1]) (n := 3) (Nat.le_of_ble_eq_true rfl)
  rw [lg_entry_eq]
  generalize (lg_sl ([.ref (a 0), .int p0, .int p1]) ++ List.replicate (3 - (lg_sl ([.ref (a 0), .int p0, .int p1])).length) Slot.unset).toArray = ls at hl ⊢
  have hl : lv_has ls 3 [(0, .ref (a 0)), (1, .int p0), (2, .int p1)] := hl
  refine lv_aload_n hx hb d_M_leave_0 rfl (lv_at hl 0 rfl) ?_
  refine lv_iload_n hx hb d_M_leave_1 rfl (lv_at hl 1 rfl) ?_
  refine vp_callSi (W.runS (As := [.int p0]) (rest := [.ref (a 0)]) ⟨hx, hb, hml, hown, hw⟩ (c_M_isOne l p0) (va_cwS 1 hw (kb_S kb_382 kb_383 kb_6 kb_384) rfl rfl rfl (by decide +kernel) ⟨Nat.le_of_ble_eq_true rfl, Nat.le_of_ble_eq_true rfl⟩) preEq rfl rfl hl.1 rfl (lv_room (Nat.le_of_ble_eq_true rfl)) d_M_leave_2 ⟨Nat.le_of_ble_eq_true rfl, Nat.le_of_ble_eq_true rfl⟩) (fun r_1 er_1 => ?_)
  rcases er_1 with ⟨rfl, hp_p0⟩ | ⟨rfl, hp_p0⟩
  · skip
    obtain ⟨g, hg, rfl⟩ := vp_in_of hp_p0 (by decide)
    have hcg : (nI g).toNatClampNeg = g := nI_clamp (by omega)
    refine lv_if_eq (tgt := 19) hx hb d_M_leave_5 (by decide) (fun c_1 => absurd c_1 (by decide)) (fun c_1 => ?_)
    refine lv_iload_n hx hb d_M_leave_8 rfl (lv_at hl 2 rfl) ?_
    refine vp_callSi (W.runS (As := [.int p1]) (rest := [.ref (a 0)]) ⟨hx, hb, hml, hown, hw⟩ (c_M_isOne l p1) (va_cwS 1 hw (kb_S kb_382 kb_383 kb_6 kb_384) rfl rfl rfl (by decide +kernel) ⟨Nat.le_of_ble_eq_true rfl, Nat.le_of_ble_eq_true rfl⟩) preEq rfl rfl hl.1 rfl (lv_room (Nat.le_of_ble_eq_true rfl)) d_M_leave_9 ⟨Nat.le_of_ble_eq_true rfl, Nat.le_of_ble_eq_true rfl⟩) (fun r_2 er_2 => ?_)
    rcases er_2 with ⟨rfl, hp_p1⟩ | ⟨rfl, hp_p1⟩
    · skip
      obtain ⟨q, hq, rfl⟩ := vp_in_of hp_p1 (by decide)
      have hcq : (nI q).toNatClampNeg = q := nI_clamp (by omega)
      refine lv_if_eq (tgt := 19) hx hb d_M_leave_12 (by decide) (fun c_2 => absurd c_2 (by decide)) (fun c_2 => ?_)
      refine lv_iconst (v := 1) hx hb d_M_leave_15 (by decide) ?_
      refine lv_goto (tgt := 20) hx hb d_M_leave_16 (by decide) ?_
      refine kc_i (Wd := mwv cI cJ cZ a) (va_runV (As := [.int 1]) (rest := []) ⟨hx, hb, hml, hown, hw⟩ (c_M_goes1 l hnd co lg tm rm no M _) (cwV 1 hw (kb_V kb_385 kb_387 kb_s5 kb_6 kb_388) rfl rfl rfl (by decide +kernel) ⟨Nat.le_of_ble_eq_true rfl, Nat.le_of_ble_eq_true rfl⟩) (kPV (va_recv hK hP (ci := 3) (q0 := 0) rfl rfl) hP hK) rfl rfl hl.1 rfl (lv_room (Nat.le_of_ble_eq_true rfl)) d_M_leave_20 ⟨Nat.le_of_ble_eq_true rfl, Nat.le_of_ble_eq_true rfl⟩) hS hA hAL (fun r_4 u_3 H locs hw9 hP _ _ hS => ?_)
      obtain ⟨rfl, rfl⟩ := hw9
      have hP : va_P (dC, dI) vwCl (mw cI cJ cZ a 0 lg tm rm no M) _ := hP
      rw [← mv_at M g] at hP
      generalize hMg : M g = gv at hP
      obtain ⟨x0, x1, x2, x3, x4, x5, x6⟩ := gv
      have hMu : va_up M g (x0, x1, x2, x3, x4, x5, x6) = M := by rw [← hMg]; exact mv_at M g
      refine lv_if_ne (tgt := 28) hx hb d_M_leave_23 (by decide) (fun c_3 => ?_) (fun c_3 => absurd c_3 (by decide))
      refine lv_aload_n hx hb d_M_leave_28 rfl (lv_at hl 0 rfl) ?_
      refine va_get (D := (dC, dI)) (ci := 3) (v := .ref (a 4)) (C := R_M) (T := F_M) (N := 12) hx hb hw i_M hown hK hP 0 rfl rfl 8 (by decide) (hw _ kb_344) (fun _ h9 => h9) rfl d_M_leave_29 ?_
      refine lv_bipush (v := 8) hx hb d_M_leave_32 (by decide) ?_
      refine lv_iload_n hx hb d_M_leave_34 rfl (lv_at hl 1 rfl) ?_
      refine lv_imul hx hb d_M_leave_35 ?_
      refine lv_iload_n hx hb d_M_leave_36 rfl (lv_at hl 2 rfl) ?_
      refine lv_iadd hx hb d_M_leave_37 ?_
      refine ml_me (i := q) hx hb hK hP hg hq d_M_leave_38 ?_
      refine lv_if_ne (tgt := 45) hx hb d_M_leave_39 (by decide) (fun c_4 => ?_) (fun c_4 => ?_)
      · refine lv_aload_n hx hb d_M_leave_45 rfl (lv_at hl 0 rfl) ?_
        refine va_get (D := (dC, dI)) (ci := 3) (v := .ref (a 4)) (C := R_M) (T := F_M) (N := 12) hx hb hw i_M hown hK hP 0 rfl rfl 8 (by decide) (hw _ kb_344) (fun _ h9 => h9) rfl d_M_leave_46 ?_
        refine lv_bipush (v := 8) hx hb d_M_leave_49 (by decide) ?_
        refine lv_iload_n hx hb d_M_leave_51 rfl (lv_at hl 1 rfl) ?_
        refine lv_imul hx hb d_M_leave_52 ?_
        refine lv_iload_n hx hb d_M_leave_53 rfl (lv_at hl 2 rfl) ?_
        refine lv_iadd hx hb d_M_leave_54 ?_
        refine lv_iconst (v := 0) hx hb d_M_leave_55 (by decide) ?_
        refine ms_me (i := q) (v := 0) hx hb hK hP hnd hAL hS hg hq d_M_leave_56 (fun H locs hP hS => ?_)
        rw [vz0] at hP
        refine lv_aload_n hx hb d_M_leave_57 rfl (lv_at hl 0 rfl) ?_
        refine va_get (D := (dC, dI)) (ci := 3) (v := .ref (a 5)) (C := R_M) (T := F_M) (N := 12) hx hb hw i_M hown hK hP 0 rfl rfl 9 (by decide) (hw _ kb_345) (fun _ h9 => h9) rfl d_M_leave_58 ?_
        refine lv_bipush (v := 8) hx hb d_M_leave_61 (by decide) ?_
        refine lv_iload_n hx hb d_M_leave_63 rfl (lv_at hl 1 rfl) ?_
        refine lv_imul hx hb d_M_leave_64 ?_
        refine lv_iload_n hx hb d_M_leave_65 rfl (lv_at hl 2 rfl) ?_
        refine lv_iadd hx hb d_M_leave_66 ?_
        refine lv_iconst (v := 0) hx hb d_M_leave_67 (by decide) ?_
        refine ms_jo (i := q) (v := 0) hx hb hK hP hnd hAL hS hg hq d_M_leave_68 (fun H locs hP hS => ?_)
        rw [vz0] at hP
        refine lv_aload_n hx hb d_M_leave_69 rfl (lv_at hl 0 rfl) ?_
        refine lv_iload_n hx hb d_M_leave_70 rfl (lv_at hl 1 rfl) ?_
        refine kc_v (Wd := mwv cI cJ cZ a) (va_runV (As := [.int (nI g)]) (rest := []) ⟨hx, hb, hml, hown, hw⟩ (c_M_without l hnd 0 lg tm rm no M hg x0 x1 x2 (upd x3 q 0) (upd x4 q 0) x5 x6 _) (cwV 1 hw (kb_V kb_417 kb_419 kb_s12 kb_6 kb_420) rfl rfl rfl (by decide +kernel) ⟨Nat.le_of_ble_eq_true rfl, Nat.le_of_ble_eq_true rfl⟩) (kPV (va_recv hK hP (ci := 3) (q0 := 0) rfl rfl) hP hK) rfl rfl hl.1 rfl (lv_room (Nat.le_of_ble_eq_true rfl)) d_M_leave_71 ⟨Nat.le_of_ble_eq_true rfl, Nat.le_of_ble_eq_true rfl⟩) hS hA hAL (fun u_5 H locs hw9 hP _ _ hS => ?_)
        subst hw9
        have hP : va_P (dC, dI) vwCl (mw cI cJ cZ a 0 lg tm rm no (va_up M g (mg_wo tm (x0, x1, x2, (upd x3 q 0), (upd x4 q 0), x5, x6)))) _ := hP
        generalize hq_7 : mg_wo tm (x0, x1, x2, (upd x3 q 0), (upd x4 q 0), x5, x6) = z_7 at hP
        obtain ⟨y7_0, y7_1, y7_2, y7_3, y7_4, y7_5, y7_6⟩ := z_7
        refine lv_aload_n hx hb d_M_leave_74 rfl (lv_at hl 0 rfl) ?_
        refine lv_iload_n hx hb d_M_leave_75 rfl (lv_at hl 1 rfl) ?_
        refine kc_v (Wd := mwv cI cJ cZ a) (va_runV (As := [.int (nI g)]) (rest := []) ⟨hx, hb, hml, hown, hw⟩ (c_M_mayBeDone l hnd 0 lg tm rm no M hg y7_0 y7_1 y7_2 y7_3 y7_4 y7_5 y7_6 _) (cwV 1 hw (kb_V kb_393 kb_395 kb_s7 kb_6 kb_396) rfl rfl rfl (by decide +kernel) ⟨Nat.le_of_ble_eq_true rfl, Nat.le_of_ble_eq_true rfl⟩) (kPV (va_recv hK hP (ci := 3) (q0 := 0) rfl rfl) hP hK) rfl rfl hl.1 rfl (lv_room (Nat.le_of_ble_eq_true rfl)) d_M_leave_76 ⟨Nat.le_of_ble_eq_true rfl, Nat.le_of_ble_eq_true rfl⟩) hS hA hAL (fun u_8 H locs hw9 hP _ _ hS => ?_)
        subst hw9
        have hP : va_P (dC, dI) vwCl (mw cI cJ cZ a 0 lg tm (mg_done tm rm no (y7_0, y7_1, y7_2, y7_3, y7_4, y7_5, y7_6)).2.1 (mg_done tm rm no (y7_0, y7_1, y7_2, y7_3, y7_4, y7_5, y7_6)).2.2 (va_up M g (mg_done tm rm no (y7_0, y7_1, y7_2, y7_3, y7_4, y7_5, y7_6)).1)) _ := hP
        generalize hq_10 : mg_done tm rm no (y7_0, y7_1, y7_2, y7_3, y7_4, y7_5, y7_6) = z_10 at hP
        obtain ⟨⟨y10_0, y10_1, y10_2, y10_3, y10_4, y10_5, y10_6⟩, rm_10, no_10⟩ := z_10
        have hP : va_P (dC, dI) vwCl (mw cI cJ cZ a 0 lg tm rm_10 no_10 (va_up M g (y10_0, y10_1, y10_2, y10_3, y10_4, y10_5, y10_6))) _ := hP
        refine lv_iconst (v := 1) hx hb d_M_leave_79 (by decide) ?_
        exact W.iret (v := 1) hx hb hr (fun t ht hW => ⟨⟨_, (0, lg, tm, rm_10, no_10, (va_up M g (y10_0, y10_1, y10_2, y10_3, y10_4, y10_5, y10_6))), rfl, Or.inl ⟨⟨hp_p0, hp_p1⟩, by first | (simp only [md_leave, mg_rid, hcg, hcq, hMg, hMu, if_neg c_4, hq_7, hq_10]; done) | (simp [md_leave, mg_rid, hcg, hcq, hMg, hMu, c_4, hq_7, hq_10]; done)⟩, by show va_P _ _ _ t.heap; rw [ht]; exact hP⟩, hS.F ht⟩) hS.2.2 d_M_leave_80
      · refine lv_bipush (v := (-8)) hx hb d_M_leave_42 (by decide) ?_
        exact W.iret (v := (-8)) hx hb hr (fun t ht hW => ⟨⟨_, (0, lg, tm, rm, no, (va_up M g (x0, x1, x2, x3, x4, x5, x6))), rfl, Or.inl ⟨⟨hp_p0, hp_p1⟩, by first | (simp only [md_leave, mg_rid, hcg, hcq, hMg, hMu, if_pos c_4]; done) | (simp [md_leave, mg_rid, hcg, hcq, hMg, hMu, c_4]; done)⟩, by show va_P _ _ _ t.heap; rw [ht]; exact hP⟩, hS.F ht⟩) hS.2.2 d_M_leave_44
    · skip
      refine lv_if_eq (tgt := 19) hx hb d_M_leave_12 (by decide) (fun c_5 => ?_) (fun c_5 => absurd c_5 (by decide))
      refine lv_iconst (v := 0) hx hb d_M_leave_19 (by decide) ?_
      refine kc_i (Wd := mwv cI cJ cZ a) (va_runV (As := [.int 0]) (rest := []) ⟨hx, hb, hml, hown, hw⟩ (c_M_goes0 l hnd co lg tm rm no M _) (cwV 1 hw (kb_V kb_385 kb_387 kb_s5 kb_6 kb_388) rfl rfl rfl (by decide +kernel) ⟨Nat.le_of_ble_eq_true rfl, Nat.le_of_ble_eq_true rfl⟩) (kPV (va_recv hK hP (ci := 3) (q0 := 0) rfl rfl) hP hK) rfl rfl hl.1 rfl (lv_room (Nat.le_of_ble_eq_true rfl)) d_M_leave_20 ⟨Nat.le_of_ble_eq_true rfl, Nat.le_of_ble_eq_true rfl⟩) hS hA hAL (fun r_12 u_11 H locs hw9 hP _ _ hS => ?_)
      obtain ⟨rfl, rfl⟩ := hw9
      have hP : va_P (dC, dI) vwCl (mw cI cJ cZ a 1 lg tm rm no M) _ := hP
      refine lv_if_ne (tgt := 28) hx hb d_M_leave_23 (by decide) (fun c_6 => absurd c_6 (by decide)) (fun c_6 => ?_)
      refine lv_iconst (v := 0) hx hb d_M_leave_26 (by decide) ?_
      exact W.iret (v := 0) hx hb hr (fun t ht hW => ⟨⟨_, (1, lg, tm, rm, no, M), rfl, Or.inr ⟨fun h => hp_p1 h.2, rfl⟩, by show va_P _ _ _ t.heap; rw [ht]; exact hP⟩, hS.F ht⟩) hS.2.2 d_M_leave_27
  · skip
    refine lv_if_eq (tgt := 19) hx hb d_M_leave_5 (by decide) (fun c_7 => ?_) (fun c_7 => absurd c_7 (by decide))
    refine lv_iconst (v := 0) hx hb d_M_leave_19 (by decide) ?_
    refine kc_i (Wd := mwv cI cJ cZ a) (va_runV (As := [.int 0]) (rest := []) ⟨hx, hb, hml, hown, hw⟩ (c_M_goes0 l hnd co lg tm rm no M _) (cwV 1 hw (kb_V kb_385 kb_387 kb_s5 kb_6 kb_388) rfl rfl rfl (by decide +kernel) ⟨Nat.le_of_ble_eq_true rfl, Nat.le_of_ble_eq_true rfl⟩) (kPV (va_recv hK hP (ci := 3) (q0 := 0) rfl rfl) hP hK) rfl rfl hl.1 rfl (lv_room (Nat.le_of_ble_eq_true rfl)) d_M_leave_20 ⟨Nat.le_of_ble_eq_true rfl, Nat.le_of_ble_eq_true rfl⟩) hS hA hAL (fun r_14 u_13 H locs hw9 hP _ _ hS => ?_)
    obtain ⟨rfl, rfl⟩ := hw9
    have hP : va_P (dC, dI) vwCl (mw cI cJ cZ a 1 lg tm rm no M) _ := hP
    refine lv_if_ne (tgt := 28) hx hb d_M_leave_23 (by decide) (fun c_8 => absurd c_8 (by decide)) (fun c_8 => ?_)
    refine lv_iconst (v := 0) hx hb d_M_leave_26 (by decide) ?_
    exact W.iret (v := 0) hx hb hr (fun t ht hW => ⟨⟨_, (1, lg, tm, rm, no, M), rfl, Or.inr ⟨fun h => hp_p0 h.1, rfl⟩, by show va_P _ _ _ t.heap; rw [ht]; exact hP⟩, hS.F ht⟩) hS.2.2 d_M_leave_27
set_option maxHeartbeats 4000000 in
set_option maxRecDepth 100000 in
theorem c_M_beat (l : Launch) {dC : Nat → ClassId} {dI : Nat → Nat → Nat} {cI cJ cZ : ClassId} {a : Nat → Nat} (hnd : (mad a).Nodup) (co lg tm rm no : Int32) (M : Nat → mGV) (p0 : Int32) (p1 : Int32) (p2 : Int32) (sz : Nat) : Met l y_M_beat w_M_beat ({ frames := 2, cells := 0, slots := 0, locals := 60 }) (kPre (dC, dI) vwCl (mty cI cJ cZ) [.ref (a 0), .int p0, .int p1, .int p2] sz (mw cI cJ cZ a co lg tm rm no M)) (va_Qi (fun (r : Int32) (u : mDV) => ((vp_in p0 8 ∧ vp_in p1 8) ∧ (r, u) = md_beat p0.toNatClampNeg p1.toNatClampNeg p2 (co, lg, tm, rm, no, M)) ∨ (¬ (vp_in p0 8 ∧ vp_in p1 8) ∧ u = (1, lg, tm, rm, no, M))) (fun u t => va_P (dC, dI) vwCl (mwv cI cJ cZ a u) t.heap) (kA (mad a) sz)) 0 0 (kA (mad a) sz) := by
  refine Met.ofW (cc := b_M_beat) (maxL := 4) (ret := (some .int)) (by decide) rfl ?_
  intro p e s m args below meth c s₁ B hml hv
  obtain ⟨rfl, hsz, hP, hK⟩ := hv
  have hx := B.exec
  have hb := B.bytes
  have hr := B.returns
  have hts := atoms_spec (ws := w_M_beat) B.pre
  have hw := fun (w : Cond) (h : w ∈ kb_B) => hts w (List.mem_cons_of_mem _ h)
  have hown : s.vm.findClass R_M = some m.cls := findClass_of_methodNamed B.named
  have hlocks := B.notSynchronized
  subst hsz
  generalize hAe : kA (mad a) s.heap.size = A
  have hA : ∀ q : Nat, s.heap.size ≤ q → A q := fun q h => by rw [← hAe]; exact Or.inr h
  have hAL : ∀ q ∈ (mad a), A q := fun q h => by rw [← hAe]; exact Or.inl h
  have hS : va_S A s.heap s.heap [] := va_S.rf
  have hl := lv_entry ([.ref (a 0), .int p0, .int p1, .int p2]) (n := 4) (Nat.le_of_ble_eq_true rfl)
  rw [lg_entry_eq]
  generalize (lg_sl ([.ref (a 0), .int p0, .int p1, .int p2]) ++ List.replicate (4 - (lg_sl ([.ref (a 0), .int p0, .int p1, .int p2])).length) Slot.unset).toArray = ls at hl ⊢
  have hl : lv_has ls 4 [(0, .ref (a 0)), (1, .int p0), (2, .int p1), (3, .int p2)] := hl
  refine lv_aload_n hx hb d_M_beat_0 rfl (lv_at hl 0 rfl) ?_
  refine lv_iload_n hx hb d_M_beat_1 rfl (lv_at hl 1 rfl) ?_
  refine vp_callSi (W.runS (As := [.int p0]) (rest := [.ref (a 0)]) ⟨hx, hb, hml, hown, hw⟩ (c_M_isOne l p0) (va_cwS 1 hw (kb_S kb_382 kb_383 kb_6 kb_384) rfl rfl rfl (by decide +kernel) ⟨Nat.le_of_ble_eq_true rfl, Nat.le_of_ble_eq_true rfl⟩) preEq rfl rfl hl.1 rfl (lv_room (Nat.le_of_ble_eq_true rfl)) d_M_beat_2 ⟨Nat.le_of_ble_eq_true rfl, Nat.le_of_ble_eq_true rfl⟩) (fun r_1 er_1 => ?_)
  rcases er_1 with ⟨rfl, hp_p0⟩ | ⟨rfl, hp_p0⟩
  · skip
    obtain ⟨g, hg, rfl⟩ := vp_in_of hp_p0 (by decide)
    have hcg : (nI g).toNatClampNeg = g := nI_clamp (by omega)
    refine lv_if_eq (tgt := 19) hx hb d_M_beat_5 (by decide) (fun c_1 => absurd c_1 (by decide)) (fun c_1 => ?_)
    refine lv_iload_n hx hb d_M_beat_8 rfl (lv_at hl 2 rfl) ?_
    refine vp_callSi (W.runS (As := [.int p1]) (rest := [.ref (a 0)]) ⟨hx, hb, hml, hown, hw⟩ (c_M_isOne l p1) (va_cwS 1 hw (kb_S kb_382 kb_383 kb_6 kb_384) rfl rfl rfl (by decide +kernel) ⟨Nat.le_of_ble_eq_true rfl, Nat.le_of_ble_eq_true rfl⟩) preEq rfl rfl hl.1 rfl (lv_room (Nat.le_of_ble_eq_true rfl)) d_M_beat_9 ⟨Nat.le_of_ble_eq_true rfl, Nat.le_of_ble_eq_true rfl⟩) (fun r_2 er_2 => ?_)
    rcases er_2 with ⟨rfl, hp_p1⟩ | ⟨rfl, hp_p1⟩
    · skip
      obtain ⟨q, hq, rfl⟩ := vp_in_of hp_p1 (by decide)
      have hcq : (nI q).toNatClampNeg = q := nI_clamp (by omega)
      refine lv_if_eq (tgt := 19) hx hb d_M_beat_12 (by decide) (fun c_2 => absurd c_2 (by decide)) (fun c_2 => ?_)
      refine lv_iconst (v := 1) hx hb d_M_beat_15 (by decide) ?_
      refine lv_goto (tgt := 20) hx hb d_M_beat_16 (by decide) ?_
      refine kc_i (Wd := mwv cI cJ cZ a) (va_runV (As := [.int 1]) (rest := []) ⟨hx, hb, hml, hown, hw⟩ (c_M_goes1 l hnd co lg tm rm no M _) (cwV 1 hw (kb_V kb_385 kb_387 kb_s5 kb_6 kb_388) rfl rfl rfl (by decide +kernel) ⟨Nat.le_of_ble_eq_true rfl, Nat.le_of_ble_eq_true rfl⟩) (kPV (va_recv hK hP (ci := 3) (q0 := 0) rfl rfl) hP hK) rfl rfl hl.1 rfl (lv_room (Nat.le_of_ble_eq_true rfl)) d_M_beat_20 ⟨Nat.le_of_ble_eq_true rfl, Nat.le_of_ble_eq_true rfl⟩) hS hA hAL (fun r_4 u_3 H locs hw9 hP _ _ hS => ?_)
      obtain ⟨rfl, rfl⟩ := hw9
      have hP : va_P (dC, dI) vwCl (mw cI cJ cZ a 0 lg tm rm no M) _ := hP
      rw [← mv_at M g] at hP
      generalize hMg : M g = gv at hP
      obtain ⟨x0, x1, x2, x3, x4, x5, x6⟩ := gv
      have hMu : va_up M g (x0, x1, x2, x3, x4, x5, x6) = M := by rw [← hMg]; exact mv_at M g
      refine lv_if_ne (tgt := 28) hx hb d_M_beat_23 (by decide) (fun c_3 => ?_) (fun c_3 => absurd c_3 (by decide))
      refine lv_aload_n hx hb d_M_beat_28 rfl (lv_at hl 0 rfl) ?_
      refine va_get (D := (dC, dI)) (ci := 3) (v := .ref (a 4)) (C := R_M) (T := F_M) (N := 12) hx hb hw i_M hown hK hP 0 rfl rfl 8 (by decide) (hw _ kb_344) (fun _ h9 => h9) rfl d_M_beat_29 ?_
      refine lv_bipush (v := 8) hx hb d_M_beat_32 (by decide) ?_
      refine lv_iload_n hx hb d_M_beat_34 rfl (lv_at hl 1 rfl) ?_
      refine lv_imul hx hb d_M_beat_35 ?_
      refine lv_iload_n hx hb d_M_beat_36 rfl (lv_at hl 2 rfl) ?_
      refine lv_iadd hx hb d_M_beat_37 ?_
      refine ml_me (i := q) hx hb hK hP hg hq d_M_beat_38 ?_
      refine lv_if_eq (tgt := 52) hx hb d_M_beat_39 (by decide) (fun c_4 => ?_) (fun c_4 => ?_)
      · refine lv_aload_n hx hb d_M_beat_52 rfl (lv_at hl 0 rfl) ?_
        refine va_get (D := (dC, dI)) (ci := 3) (v := .ref (a 4)) (C := R_M) (T := F_M) (N := 12) hx hb hw i_M hown hK hP 0 rfl rfl 8 (by decide) (hw _ kb_344) (fun _ h9 => h9) rfl d_M_beat_53 ?_
        refine lv_bipush (v := 8) hx hb d_M_beat_56 (by decide) ?_
        refine lv_iload_n hx hb d_M_beat_58 rfl (lv_at hl 1 rfl) ?_
        refine lv_imul hx hb d_M_beat_59 ?_
        refine lv_iload_n hx hb d_M_beat_60 rfl (lv_at hl 2 rfl) ?_
        refine lv_iadd hx hb d_M_beat_61 ?_
        refine ml_me (i := q) hx hb hK hP hg hq d_M_beat_62 ?_
        refine lv_if_eq (tgt := 71) hx hb d_M_beat_63 (by decide) (fun c_5 => ?_) (fun c_5 => ?_)
        · refine lv_bipush (v := (-8)) hx hb d_M_beat_71 (by decide) ?_
          exact W.iret (v := (-8)) hx hb hr (fun t ht hW => ⟨⟨_, (0, lg, tm, rm, no, (va_up M g (x0, x1, x2, x3, x4, x5, x6))), rfl, Or.inl ⟨⟨hp_p0, hp_p1⟩, by first | (simp only [md_beat, mg_hear, hcg, hcq, hMg, hMu, if_pos c_4, if_pos c_5]; done) | (simp [md_beat, mg_hear, hcg, hcq, hMg, hMu, c_4, c_5]; done)⟩, by show va_P _ _ _ t.heap; rw [ht]; exact hP⟩, hS.F ht⟩) hS.2.2 d_M_beat_73
        · exact absurd c_4 c_5
      · refine lv_iload_n hx hb d_M_beat_42 rfl (lv_at hl 3 rfl) ?_
        refine lv_aload_n hx hb d_M_beat_43 rfl (lv_at hl 0 rfl) ?_
        refine va_get (D := (dC, dI)) (ci := 3) (v := .ref (a 2)) (C := R_M) (T := F_M) (N := 12) hx hb hw i_M hown hK hP 0 rfl rfl 6 (by decide) (hw _ kb_342) (fun _ h9 => h9) rfl d_M_beat_44 ?_
        refine lv_iload_n hx hb d_M_beat_47 rfl (lv_at hl 1 rfl) ?_
        refine ml_ge hx hb hK hP hg d_M_beat_48 ?_
        refine lv_icmp_eq (tgt := 74) hx hb d_M_beat_49 (by decide) (fun c_6 => ?_) (fun c_6 => ?_)
        · refine lv_aload_n hx hb d_M_beat_74 rfl (lv_at hl 0 rfl) ?_
          refine va_get (D := (dC, dI)) (ci := 3) (v := .ref (a 6)) (C := R_M) (T := F_M) (N := 12) hx hb hw i_M hown hK hP 0 rfl rfl 10 (by decide) (hw _ kb_346) (fun _ h9 => h9) rfl d_M_beat_75 ?_
          refine lv_bipush (v := 8) hx hb d_M_beat_78 (by decide) ?_
          refine lv_iload_n hx hb d_M_beat_80 rfl (lv_at hl 1 rfl) ?_
          refine lv_imul hx hb d_M_beat_81 ?_
          refine lv_iload_n hx hb d_M_beat_82 rfl (lv_at hl 2 rfl) ?_
          refine lv_iadd hx hb d_M_beat_83 ?_
          refine lv_aload_n hx hb d_M_beat_84 rfl (lv_at hl 0 rfl) ?_
          refine va_get (D := (dC, dI)) (ci := 3) (v := .int tm) (C := R_M) (T := F_M) (N := 12) hx hb hw i_M hown hK hP 0 rfl rfl 2 (by decide) (hw _ kb_338) (fun _ h9 => h9) rfl d_M_beat_85 ?_
          refine ms_he (i := q) (v := tm) hx hb hK hP hnd hAL hS hg hq d_M_beat_88 (fun H locs hP hS => ?_)
          refine lv_aload_n hx hb d_M_beat_89 rfl (lv_at hl 0 rfl) ?_
          refine va_get (D := (dC, dI)) (ci := 3) (v := .ref (a 1)) (C := R_M) (T := F_M) (N := 12) hx hb hw i_M hown hK hP 0 rfl rfl 5 (by decide) (hw _ kb_341) (fun _ h9 => h9) rfl d_M_beat_90 ?_
          refine lv_iload_n hx hb d_M_beat_93 rfl (lv_at hl 1 rfl) ?_
          refine ml_st hx hb hK hP hg d_M_beat_94 ?_
          refine lv_iconst (v := 1) hx hb d_M_beat_95 (by decide) ?_
          refine lv_icmp_ne (tgt := 117) hx hb d_M_beat_96 (by decide) (fun c_7 => ?_) (fun c_7 => ?_)
          · refine lv_iconst (v := 0) hx hb d_M_beat_117 (by decide) ?_
            exact W.iret (v := 0) hx hb hr (fun t ht hW => ⟨⟨_, (0, lg, tm, rm, no, (va_up M g (x0, x1, x2, x3, x4, upd x5 q tm, x6))), rfl, Or.inl ⟨⟨hp_p0, hp_p1⟩, by first | (simp only [md_beat, mg_hear, hcg, hcq, hMg, hMu, if_neg c_4, if_pos c_6, if_neg c_7]; done) | (simp [md_beat, mg_hear, hcg, hcq, hMg, hMu, c_4, c_6, c_7]; done)⟩, by show va_P _ _ _ t.heap; rw [ht]; exact hP⟩, hS.F ht⟩) hS.2.2 d_M_beat_118
          · refine lv_aload_n hx hb d_M_beat_99 rfl (lv_at hl 0 rfl) ?_
            refine va_get (D := (dC, dI)) (ci := 3) (v := .ref (a 5)) (C := R_M) (T := F_M) (N := 12) hx hb hw i_M hown hK hP 0 rfl rfl 9 (by decide) (hw _ kb_345) (fun _ h9 => h9) rfl d_M_beat_100 ?_
            refine lv_bipush (v := 8) hx hb d_M_beat_103 (by decide) ?_
            refine lv_iload_n hx hb d_M_beat_105 rfl (lv_at hl 1 rfl) ?_
            refine lv_imul hx hb d_M_beat_106 ?_
            refine lv_iload_n hx hb d_M_beat_107 rfl (lv_at hl 2 rfl) ?_
            refine lv_iadd hx hb d_M_beat_108 ?_
            refine ml_jo (i := q) hx hb hK hP hg hq d_M_beat_109 ?_
            refine lv_if_ne (tgt := 117) hx hb d_M_beat_110 (by decide) (fun c_8 => ?_) (fun c_8 => ?_)
            · refine lv_iconst (v := 0) hx hb d_M_beat_117 (by decide) ?_
              exact W.iret (v := 0) hx hb hr (fun t ht hW => ⟨⟨_, (0, lg, tm, rm, no, (va_up M g (x0, x1, x2, x3, x4, upd x5 q tm, x6))), rfl, Or.inl ⟨⟨hp_p0, hp_p1⟩, by first | (simp only [md_beat, mg_hear, hcg, hcq, hMg, hMu, if_neg c_4, if_pos c_6, if_pos c_7, if_neg c_8]; done) | (simp [md_beat, mg_hear, hcg, hcq, hMg, hMu, c_4, c_6, c_7, c_8]; done)⟩, by show va_P _ _ _ t.heap; rw [ht]; exact hP⟩, hS.F ht⟩) hS.2.2 d_M_beat_118
            · refine lv_iconst (v := 1) hx hb d_M_beat_113 (by decide) ?_
              refine lv_goto (tgt := 118) hx hb d_M_beat_114 (by decide) ?_
              exact W.iret (v := 1) hx hb hr (fun t ht hW => ⟨⟨_, (0, lg, tm, rm, no, (va_up M g (x0, x1, x2, x3, x4, upd x5 q tm, x6))), rfl, Or.inl ⟨⟨hp_p0, hp_p1⟩, by first | (simp only [md_beat, mg_hear, hcg, hcq, hMg, hMu, if_neg c_4, if_pos c_6, if_pos c_7, if_pos c_8]; done) | (simp [md_beat, mg_hear, hcg, hcq, hMg, hMu, c_4, c_6, c_7, c_8]; done)⟩, by show va_P _ _ _ t.heap; rw [ht]; exact hP⟩, hS.F ht⟩) hS.2.2 d_M_beat_118
        · refine lv_aload_n hx hb d_M_beat_52 rfl (lv_at hl 0 rfl) ?_
          refine va_get (D := (dC, dI)) (ci := 3) (v := .ref (a 4)) (C := R_M) (T := F_M) (N := 12) hx hb hw i_M hown hK hP 0 rfl rfl 8 (by decide) (hw _ kb_344) (fun _ h9 => h9) rfl d_M_beat_53 ?_
          refine lv_bipush (v := 8) hx hb d_M_beat_56 (by decide) ?_
          refine lv_iload_n hx hb d_M_beat_58 rfl (lv_at hl 1 rfl) ?_
          refine lv_imul hx hb d_M_beat_59 ?_
          refine lv_iload_n hx hb d_M_beat_60 rfl (lv_at hl 2 rfl) ?_
          refine lv_iadd hx hb d_M_beat_61 ?_
          refine ml_me (i := q) hx hb hK hP hg hq d_M_beat_62 ?_
          refine lv_if_eq (tgt := 71) hx hb d_M_beat_63 (by decide) (fun c_9 => ?_) (fun c_9 => ?_)
          · exact absurd c_9 c_4
          · refine lv_bipush (v := (-9)) hx hb d_M_beat_66 (by decide) ?_
            refine lv_goto (tgt := 73) hx hb d_M_beat_68 (by decide) ?_
            exact W.iret (v := (-9)) hx hb hr (fun t ht hW => ⟨⟨_, (0, lg, tm, rm, no, (va_up M g (x0, x1, x2, x3, x4, x5, x6))), rfl, Or.inl ⟨⟨hp_p0, hp_p1⟩, by first | (simp only [md_beat, mg_hear, hcg, hcq, hMg, hMu, if_neg c_4, if_neg c_6, if_neg c_9]; done) | (simp [md_beat, mg_hear, hcg, hcq, hMg, hMu, c_4, c_6, c_9]; done)⟩, by show va_P _ _ _ t.heap; rw [ht]; exact hP⟩, hS.F ht⟩) hS.2.2 d_M_beat_73
    · skip
      refine lv_if_eq (tgt := 19) hx hb d_M_beat_12 (by decide) (fun c_10 => ?_) (fun c_10 => absurd c_10 (by decide))
      refine lv_iconst (v := 0) hx hb d_M_beat_19 (by decide) ?_
      refine kc_i (Wd := mwv cI cJ cZ a) (va_runV (As := [.int 0]) (rest := []) ⟨hx, hb, hml, hown, hw⟩ (c_M_goes0 l hnd co lg tm rm no M _) (cwV 1 hw (kb_V kb_385 kb_387 kb_s5 kb_6 kb_388) rfl rfl rfl (by decide +kernel) ⟨Nat.le_of_ble_eq_true rfl, Nat.le_of_ble_eq_true rfl⟩) (kPV (va_recv hK hP (ci := 3) (q0 := 0) rfl rfl) hP hK) rfl rfl hl.1 rfl (lv_room (Nat.le_of_ble_eq_true rfl)) d_M_beat_20 ⟨Nat.le_of_ble_eq_true rfl, Nat.le_of_ble_eq_true rfl⟩) hS hA hAL (fun r_6 u_5 H locs hw9 hP _ _ hS => ?_)
      obtain ⟨rfl, rfl⟩ := hw9
      have hP : va_P (dC, dI) vwCl (mw cI cJ cZ a 1 lg tm rm no M) _ := hP
      refine lv_if_ne (tgt := 28) hx hb d_M_beat_23 (by decide) (fun c_11 => absurd c_11 (by decide)) (fun c_11 => ?_)
      refine lv_iconst (v := 0) hx hb d_M_beat_26 (by decide) ?_
      exact W.iret (v := 0) hx hb hr (fun t ht hW => ⟨⟨_, (1, lg, tm, rm, no, M), rfl, Or.inr ⟨fun h => hp_p1 h.2, rfl⟩, by show va_P _ _ _ t.heap; rw [ht]; exact hP⟩, hS.F ht⟩) hS.2.2 d_M_beat_27
  · skip
    refine lv_if_eq (tgt := 19) hx hb d_M_beat_5 (by decide) (fun c_12 => ?_) (fun c_12 => absurd c_12 (by decide))
    refine lv_iconst (v := 0) hx hb d_M_beat_19 (by decide) ?_
    refine kc_i (Wd := mwv cI cJ cZ a) (va_runV (As := [.int 0]) (rest := []) ⟨hx, hb, hml, hown, hw⟩ (c_M_goes0 l hnd co lg tm rm no M _) (cwV 1 hw (kb_V kb_385 kb_387 kb_s5 kb_6 kb_388) rfl rfl rfl (by decide +kernel) ⟨Nat.le_of_ble_eq_true rfl, Nat.le_of_ble_eq_true rfl⟩) (kPV (va_recv hK hP (ci := 3) (q0 := 0) rfl rfl) hP hK) rfl rfl hl.1 rfl (lv_room (Nat.le_of_ble_eq_true rfl)) d_M_beat_20 ⟨Nat.le_of_ble_eq_true rfl, Nat.le_of_ble_eq_true rfl⟩) hS hA hAL (fun r_8 u_7 H locs hw9 hP _ _ hS => ?_)
    obtain ⟨rfl, rfl⟩ := hw9
    have hP : va_P (dC, dI) vwCl (mw cI cJ cZ a 1 lg tm rm no M) _ := hP
    refine lv_if_ne (tgt := 28) hx hb d_M_beat_23 (by decide) (fun c_13 => absurd c_13 (by decide)) (fun c_13 => ?_)
    refine lv_iconst (v := 0) hx hb d_M_beat_26 (by decide) ?_
    exact W.iret (v := 0) hx hb hr (fun t ht hW => ⟨⟨_, (1, lg, tm, rm, no, M), rfl, Or.inr ⟨fun h => hp_p0 h.1, rfl⟩, by show va_P _ _ _ t.heap; rw [ht]; exact hP⟩, hS.F ht⟩) hS.2.2 d_M_beat_27
set_option maxHeartbeats 4000000 in
set_option maxRecDepth 100000 in
theorem c_M_commit (l : Launch) {dC : Nat → ClassId} {dI : Nat → Nat → Nat} {cI cJ cZ : ClassId} {a : Nat → Nat} (hnd : (mad a).Nodup) (co lg tm rm no : Int32) (M : Nat → mGV) (p0 : Int32) (p1 : Int32) (p2 : Int32) (p3 : Int32) (p4 : Int64) (hlg : ∃ n : Nat, n ≤ 8 ∧ lg = nI n) (sz : Nat) : Met l y_M_commit w_M_commit ({ frames := 2, cells := 0, slots := 0, locals := 60 }) (kPre (dC, dI) vwCl (mty cI cJ cZ) [.ref (a 0), .int p0, .int p1, .int p2, .int p3, .long p4] sz (mw cI cJ cZ a co lg tm rm no M)) (va_Qi (fun (r : Int32) (u : mDV) => ((vp_in p0 8 ∧ vp_in p1 8 ∧ (¬ p3 < 0 ∧ p3 < lg) ∧ ¬ p4 < 0) ∧ (r, u) = md_commit p0.toNatClampNeg p1.toNatClampNeg p2 p3.toNatClampNeg p4 (co, lg, tm, rm, no, M)) ∨ (¬ (vp_in p0 8 ∧ vp_in p1 8 ∧ (¬ p3 < 0 ∧ p3 < lg) ∧ ¬ p4 < 0) ∧ u = (1, lg, tm, rm, no, M))) (fun u t => va_P (dC, dI) vwCl (mwv cI cJ cZ a u) t.heap) (kA (mad a) sz)) 0 0 (kA (mad a) sz) := by
  refine Met.ofW (cc := b_M_commit) (maxL := 7) (ret := (some .int)) (by decide) rfl ?_
  intro p e s m args below meth c s₁ B hml hv
  obtain ⟨rfl, hsz, hP, hK⟩ := hv
  have hx := B.exec
  have hb := B.bytes
  have hr := B.returns
  have hts := atoms_spec (ws := w_M_commit) B.pre
  have hw := fun (w : Cond) (h : w ∈ kb_B) => hts w (List.mem_cons_of_mem _ h)
  have hown : s.vm.findClass R_M = some m.cls := findClass_of_methodNamed B.named
  have hlocks := B.notSynchronized
  subst hsz
  generalize hAe : kA (mad a) s.heap.size = A
  have hA : ∀ q : Nat, s.heap.size ≤ q → A q := fun q h => by rw [← hAe]; exact Or.inr h
  have hAL : ∀ q ∈ (mad a), A q := fun q h => by rw [← hAe]; exact Or.inl h
  have hS : va_S A s.heap s.heap [] := va_S.rf
  have hl := lv_entry ([.ref (a 0), .int p0, .int p1, .int p2, .int p3, .long p4]) (n := 7) (Nat.le_of_ble_eq_true rfl)
  rw [lg_entry_eq]
  generalize (lg_sl ([.ref (a 0), .int p0, .int p1, .int p2, .int p3, .long p4]) ++ List.replicate (7 - (lg_sl ([.ref (a 0), .int p0, .int p1, .int p2, .int p3, .long p4])).length) Slot.unset).toArray = ls at hl ⊢
  have hl : lv_has ls 7 [(0, .ref (a 0)), (1, .int p0), (2, .int p1), (3, .int p2), (4, .int p3), (5, .long p4)] := hl
  refine lv_aload_n hx hb d_M_commit_0 rfl (lv_at hl 0 rfl) ?_
  refine lv_iload_n hx hb d_M_commit_1 rfl (lv_at hl 1 rfl) ?_
  refine vp_callSi (W.runS (As := [.int p0]) (rest := [.ref (a 0)]) ⟨hx, hb, hml, hown, hw⟩ (c_M_isOne l p0) (va_cwS 1 hw (kb_S kb_382 kb_383 kb_6 kb_384) rfl rfl rfl (by decide +kernel) ⟨Nat.le_of_ble_eq_true rfl, Nat.le_of_ble_eq_true rfl⟩) preEq rfl rfl hl.1 rfl (lv_room (Nat.le_of_ble_eq_true rfl)) d_M_commit_2 ⟨Nat.le_of_ble_eq_true rfl, Nat.le_of_ble_eq_true rfl⟩) (fun r_1 er_1 => ?_)
  rcases er_1 with ⟨rfl, hp_p0⟩ | ⟨rfl, hp_p0⟩
  · skip
    obtain ⟨g, hg, rfl⟩ := vp_in_of hp_p0 (by decide)
    have hcg : (nI g).toNatClampNeg = g := nI_clamp (by omega)
    refine lv_if_eq (tgt := 40) hx hb d_M_commit_5 (by decide) (fun c_1 => absurd c_1 (by decide)) (fun c_1 => ?_)
    refine lv_iload_n hx hb d_M_commit_8 rfl (lv_at hl 2 rfl) ?_
    refine vp_callSi (W.runS (As := [.int p1]) (rest := [.ref (a 0)]) ⟨hx, hb, hml, hown, hw⟩ (c_M_isOne l p1) (va_cwS 1 hw (kb_S kb_382 kb_383 kb_6 kb_384) rfl rfl rfl (by decide +kernel) ⟨Nat.le_of_ble_eq_true rfl, Nat.le_of_ble_eq_true rfl⟩) preEq rfl rfl hl.1 rfl (lv_room (Nat.le_of_ble_eq_true rfl)) d_M_commit_9 ⟨Nat.le_of_ble_eq_true rfl, Nat.le_of_ble_eq_true rfl⟩) (fun r_2 er_2 => ?_)
    rcases er_2 with ⟨rfl, hp_p1⟩ | ⟨rfl, hp_p1⟩
    · skip
      obtain ⟨q, hq, rfl⟩ := vp_in_of hp_p1 (by decide)
      have hcq : (nI q).toNatClampNeg = q := nI_clamp (by omega)
      refine lv_if_eq (tgt := 40) hx hb d_M_commit_12 (by decide) (fun c_2 => absurd c_2 (by decide)) (fun c_2 => ?_)
      refine lv_iload hx hb d_M_commit_15 (lv_at hl 4 rfl) ?_
      refine lv_if_lt (tgt := 40) hx hb d_M_commit_17 (by decide) (fun c_3 => ?_) (fun c_3 => ?_)
      · refine lv_iconst (v := 0) hx hb d_M_commit_40 (by decide) ?_
        refine kc_i (Wd := mwv cI cJ cZ a) (va_runV (As := [.int 0]) (rest := []) ⟨hx, hb, hml, hown, hw⟩ (c_M_goes0 l hnd co lg tm rm no M _) (cwV 1 hw (kb_V kb_385 kb_387 kb_s5 kb_6 kb_388) rfl rfl rfl (by decide +kernel) ⟨Nat.le_of_ble_eq_true rfl, Nat.le_of_ble_eq_true rfl⟩) (kPV (va_recv hK hP (ci := 3) (q0 := 0) rfl rfl) hP hK) rfl rfl hl.1 rfl (lv_room (Nat.le_of_ble_eq_true rfl)) d_M_commit_41 ⟨Nat.le_of_ble_eq_true rfl, Nat.le_of_ble_eq_true rfl⟩) hS hA hAL (fun r_4 u_3 H locs hw9 hP _ _ hS => ?_)
        obtain ⟨rfl, rfl⟩ := hw9
        have hP : va_P (dC, dI) vwCl (mw cI cJ cZ a 1 lg tm rm no M) _ := hP
        refine lv_if_ne (tgt := 49) hx hb d_M_commit_44 (by decide) (fun c_4 => absurd c_4 (by decide)) (fun c_4 => ?_)
        refine lv_iconst (v := 0) hx hb d_M_commit_47 (by decide) ?_
        exact W.iret (v := 0) hx hb hr (fun t ht hW => ⟨⟨_, (1, lg, tm, rm, no, M), rfl, Or.inr ⟨fun h => h.2.2.1.1 c_3, rfl⟩, by show va_P _ _ _ t.heap; rw [ht]; exact hP⟩, hS.F ht⟩) hS.2.2 d_M_commit_48
      · refine lv_iload hx hb d_M_commit_20 (lv_at hl 4 rfl) ?_
        refine lv_aload_n hx hb d_M_commit_22 rfl (lv_at hl 0 rfl) ?_
        refine va_get (D := (dC, dI)) (ci := 3) (v := .int lg) (C := R_M) (T := F_M) (N := 12) hx hb hw i_M hown hK hP 0 rfl rfl 1 (by decide) (hw _ kb_337) (fun _ h9 => h9) rfl d_M_commit_23 ?_
        refine lv_icmp_ge (tgt := 40) hx hb d_M_commit_26 (by decide) (fun c_5 => ?_) (fun c_5 => ?_)
        · refine lv_iconst (v := 0) hx hb d_M_commit_40 (by decide) ?_
          refine kc_i (Wd := mwv cI cJ cZ a) (va_runV (As := [.int 0]) (rest := []) ⟨hx, hb, hml, hown, hw⟩ (c_M_goes0 l hnd co lg tm rm no M _) (cwV 1 hw (kb_V kb_385 kb_387 kb_s5 kb_6 kb_388) rfl rfl rfl (by decide +kernel) ⟨Nat.le_of_ble_eq_true rfl, Nat.le_of_ble_eq_true rfl⟩) (kPV (va_recv hK hP (ci := 3) (q0 := 0) rfl rfl) hP hK) rfl rfl hl.1 rfl (lv_room (Nat.le_of_ble_eq_true rfl)) d_M_commit_41 ⟨Nat.le_of_ble_eq_true rfl, Nat.le_of_ble_eq_true rfl⟩) hS hA hAL (fun r_6 u_5 H locs hw9 hP _ _ hS => ?_)
          obtain ⟨rfl, rfl⟩ := hw9
          have hP : va_P (dC, dI) vwCl (mw cI cJ cZ a 1 lg tm rm no M) _ := hP
          refine lv_if_ne (tgt := 49) hx hb d_M_commit_44 (by decide) (fun c_6 => absurd c_6 (by decide)) (fun c_6 => ?_)
          refine lv_iconst (v := 0) hx hb d_M_commit_47 (by decide) ?_
          exact W.iret (v := 0) hx hb hr (fun t ht hW => ⟨⟨_, (1, lg, tm, rm, no, M), rfl, Or.inr ⟨fun h => absurd h.2.2.1.2 (Int32.not_lt.mpr c_5), rfl⟩, by show va_P _ _ _ t.heap; rw [ht]; exact hP⟩, hS.F ht⟩) hS.2.2 d_M_commit_48
        · have hp_p3 : ¬ p3 < 0 ∧ p3 < lg := ⟨c_3, Int32.not_le.mp c_5⟩
          have hp_lg : p3 < lg := hp_p3.2
          obtain ⟨b, hb8, hbe⟩ := vp_in_of (k_in8 hlg hp_p3) (by decide)
          subst hbe
          have hcb : (nI b).toNatClampNeg = b := nI_clamp (by omega)
          refine lv_lload hx hb d_M_commit_29 (lv_at hl 5 rfl) ?_
          refine lv_lconst (v := 0) hx hb d_M_commit_31 (by decide) ?_
          refine W.lcmp hx hb d_M_commit_32 ?_
          refine lv_if_lt (tgt := 40) hx hb d_M_commit_33 (by decide) (fun c_7 => ?_) (fun c_7 => ?_)
          · refine lv_iconst (v := 0) hx hb d_M_commit_40 (by decide) ?_
            refine kc_i (Wd := mwv cI cJ cZ a) (va_runV (As := [.int 0]) (rest := []) ⟨hx, hb, hml, hown, hw⟩ (c_M_goes0 l hnd co lg tm rm no M _) (cwV 1 hw (kb_V kb_385 kb_387 kb_s5 kb_6 kb_388) rfl rfl rfl (by decide +kernel) ⟨Nat.le_of_ble_eq_true rfl, Nat.le_of_ble_eq_true rfl⟩) (kPV (va_recv hK hP (ci := 3) (q0 := 0) rfl rfl) hP hK) rfl rfl hl.1 rfl (lv_room (Nat.le_of_ble_eq_true rfl)) d_M_commit_41 ⟨Nat.le_of_ble_eq_true rfl, Nat.le_of_ble_eq_true rfl⟩) hS hA hAL (fun r_8 u_7 H locs hw9 hP _ _ hS => ?_)
            obtain ⟨rfl, rfl⟩ := hw9
            have hP : va_P (dC, dI) vwCl (mw cI cJ cZ a 1 lg tm rm no M) _ := hP
            refine lv_if_ne (tgt := 49) hx hb d_M_commit_44 (by decide) (fun c_8 => absurd c_8 (by decide)) (fun c_8 => ?_)
            refine lv_iconst (v := 0) hx hb d_M_commit_47 (by decide) ?_
            exact W.iret (v := 0) hx hb hr (fun t ht hW => ⟨⟨_, (1, lg, tm, rm, no, M), rfl, Or.inr ⟨fun h => absurd (k_lc.mpr h.2.2.2) (Int32.not_le.mpr c_7), rfl⟩, by show va_P _ _ _ t.heap; rw [ht]; exact hP⟩, hS.F ht⟩) hS.2.2 d_M_commit_48
          · refine lv_iconst (v := 1) hx hb d_M_commit_36 (by decide) ?_
            refine lv_goto (tgt := 41) hx hb d_M_commit_37 (by decide) ?_
            refine kc_i (Wd := mwv cI cJ cZ a) (va_runV (As := [.int 1]) (rest := []) ⟨hx, hb, hml, hown, hw⟩ (c_M_goes1 l hnd co lg tm rm no M _) (cwV 1 hw (kb_V kb_385 kb_387 kb_s5 kb_6 kb_388) rfl rfl rfl (by decide +kernel) ⟨Nat.le_of_ble_eq_true rfl, Nat.le_of_ble_eq_true rfl⟩) (kPV (va_recv hK hP (ci := 3) (q0 := 0) rfl rfl) hP hK) rfl rfl hl.1 rfl (lv_room (Nat.le_of_ble_eq_true rfl)) d_M_commit_41 ⟨Nat.le_of_ble_eq_true rfl, Nat.le_of_ble_eq_true rfl⟩) hS hA hAL (fun r_10 u_9 H locs hw9 hP _ _ hS => ?_)
            obtain ⟨rfl, rfl⟩ := hw9
            have hP : va_P (dC, dI) vwCl (mw cI cJ cZ a 0 lg tm rm no M) _ := hP
            rw [← mv_at M g] at hP
            generalize hMg : M g = gv at hP
            obtain ⟨x0, x1, x2, x3, x4, x5, x6⟩ := gv
            have hMu : va_up M g (x0, x1, x2, x3, x4, x5, x6) = M := by rw [← hMg]; exact mv_at M g
            refine lv_if_ne (tgt := 49) hx hb d_M_commit_44 (by decide) (fun c_9 => ?_) (fun c_9 => absurd c_9 (by decide))
            refine lv_aload_n hx hb d_M_commit_49 rfl (lv_at hl 0 rfl) ?_
            refine va_get (D := (dC, dI)) (ci := 3) (v := .ref (a 4)) (C := R_M) (T := F_M) (N := 12) hx hb hw i_M hown hK hP 0 rfl rfl 8 (by decide) (hw _ kb_344) (fun _ h9 => h9) rfl d_M_commit_50 ?_
            refine lv_bipush (v := 8) hx hb d_M_commit_53 (by decide) ?_
            refine lv_iload_n hx hb d_M_commit_55 rfl (lv_at hl 1 rfl) ?_
            refine lv_imul hx hb d_M_commit_56 ?_
            refine lv_iload_n hx hb d_M_commit_57 rfl (lv_at hl 2 rfl) ?_
            refine lv_iadd hx hb d_M_commit_58 ?_
            refine ml_me (i := q) hx hb hK hP hg hq d_M_commit_59 ?_
            refine lv_if_ne (tgt := 66) hx hb d_M_commit_60 (by decide) (fun c_10 => ?_) (fun c_10 => ?_)
            · refine lv_iload_n hx hb d_M_commit_66 rfl (lv_at hl 3 rfl) ?_
              refine lv_aload_n hx hb d_M_commit_67 rfl (lv_at hl 0 rfl) ?_
              refine va_get (D := (dC, dI)) (ci := 3) (v := .ref (a 2)) (C := R_M) (T := F_M) (N := 12) hx hb hw i_M hown hK hP 0 rfl rfl 6 (by decide) (hw _ kb_342) (fun _ h9 => h9) rfl d_M_commit_68 ?_
              refine lv_iload_n hx hb d_M_commit_71 rfl (lv_at hl 1 rfl) ?_
              refine ml_ge hx hb hK hP hg d_M_commit_72 ?_
              refine lv_icmp_eq (tgt := 79) hx hb d_M_commit_73 (by decide) (fun c_11 => ?_) (fun c_11 => ?_)
              · refine lv_aload_n hx hb d_M_commit_79 rfl (lv_at hl 0 rfl) ?_
                refine va_get (D := (dC, dI)) (ci := 3) (v := .ref (a 1)) (C := R_M) (T := F_M) (N := 12) hx hb hw i_M hown hK hP 0 rfl rfl 5 (by decide) (hw _ kb_341) (fun _ h9 => h9) rfl d_M_commit_80 ?_
                refine lv_iload_n hx hb d_M_commit_83 rfl (lv_at hl 1 rfl) ?_
                refine ml_st hx hb hK hP hg d_M_commit_84 ?_
                refine lv_iconst (v := 2) hx hb d_M_commit_85 (by decide) ?_
                refine lv_icmp_eq (tgt := 92) hx hb d_M_commit_86 (by decide) (fun c_12 => ?_) (fun c_12 => ?_)
                · refine lv_aload_n hx hb d_M_commit_92 rfl (lv_at hl 0 rfl) ?_
                  refine lv_iload_n hx hb d_M_commit_93 rfl (lv_at hl 1 rfl) ?_
                  refine lv_iload hx hb d_M_commit_94 (lv_at hl 4 rfl) ?_
                  refine vp_callSi (W.runV (As := [.int (nI g), .int (nI b)]) (rest := []) ⟨hx, hb, hml, hown, hw⟩ (c_M_owner l hnd 0 lg tm rm no M hg x0 x1 x2 x3 x4 x5 x6 hb8 ⟨_, hq, c_10⟩ _) (cwV 2 hw (kb_V kb_429 kb_431 kb_s13 kb_6 kb_432) rfl rfl rfl (by decide +kernel) ⟨Nat.le_of_ble_eq_true rfl, Nat.le_of_ble_eq_true rfl⟩) (kPV (va_recv hK hP (ci := 3) (q0 := 0) rfl rfl) hP hK) rfl rfl hl.1 rfl (lv_room (Nat.le_of_ble_eq_true rfl)) d_M_commit_96 ⟨Nat.le_of_ble_eq_true rfl, Nat.le_of_ble_eq_true rfl⟩) (fun r_11 er_11 => ?_)
                  subst er_11
                  refine lv_iload_n hx hb d_M_commit_99 rfl (lv_at hl 2 rfl) ?_
                  refine lv_icmp_eq (tgt := 106) hx hb d_M_commit_100 (by decide) (fun c_13 => ?_) (fun c_13 => ?_)
                  · refine lv_aload_n hx hb d_M_commit_106 rfl (lv_at hl 0 rfl) ?_
                    refine kc_i (Wd := mwv cI cJ cZ a) (va_runV (As := []) (rest := []) ⟨hx, hb, hml, hown, hw⟩ (c_M_takesNote l hnd 0 lg tm rm no (va_up M g (x0, x1, x2, x3, x4, x5, x6)) _) (cwV 0 hw (kb_V kb_409 kb_411 kb_s11 kb_6 kb_412) rfl rfl rfl (by decide +kernel) ⟨Nat.le_of_ble_eq_true rfl, Nat.le_of_ble_eq_true rfl⟩) (kPV (va_recv hK hP (ci := 3) (q0 := 0) rfl rfl) hP hK) rfl rfl hl.1 rfl (lv_room (Nat.le_of_ble_eq_true rfl)) d_M_commit_107 ⟨Nat.le_of_ble_eq_true rfl, Nat.le_of_ble_eq_true rfl⟩) hS hA hAL (fun r_13 u_12 H locs hw9 hP _ _ hS => ?_)
                    obtain ⟨rfl, rfl⟩ := hw9
                    generalize hq_14 : mn_take rm no = z_14 at hP ⊢
                    obtain ⟨r_14, rm_14, no_14⟩ := z_14
                    have hP : va_P (dC, dI) vwCl (mw cI cJ cZ a 0 lg tm rm_14 no_14 (va_up M g (x0, x1, x2, x3, x4, x5, x6))) _ := hP
                    refine lv_if_ne (tgt := 116) hx hb d_M_commit_110 (by decide) (fun c_14 => ?_) (fun c_14 => ?_)
                    · refine lv_aload_n hx hb d_M_commit_116 rfl (lv_at hl 0 rfl) ?_
                      refine va_get (D := (dC, dI)) (ci := 3) (v := .ref (a 7)) (C := R_M) (T := F_M) (N := 12) hx hb hw i_M hown hK hP 0 rfl rfl 11 (by decide) (hw _ kb_347) (fun _ h9 => h9) rfl d_M_commit_117 ?_
                      refine lv_bipush (v := 8) hx hb d_M_commit_120 (by decide) ?_
                      refine lv_iload_n hx hb d_M_commit_122 rfl (lv_at hl 1 rfl) ?_
                      refine lv_imul hx hb d_M_commit_123 ?_
                      refine lv_iload hx hb d_M_commit_124 (lv_at hl 4 rfl) ?_
                      refine lv_iadd hx hb d_M_commit_126 ?_
                      refine lv_lload hx hb d_M_commit_127 (lv_at hl 5 rfl) ?_
                      refine ms_of (i := b) (v := p4) hx hb hK hP hnd hAL hS hg hb8 d_M_commit_129 (fun H locs hP hS => ?_)
                      refine lv_aload_n hx hb d_M_commit_130 rfl (lv_at hl 0 rfl) ?_
                      refine va_get (D := (dC, dI)) (ci := 3) (v := .ref (a 6)) (C := R_M) (T := F_M) (N := 12) hx hb hw i_M hown hK hP 0 rfl rfl 10 (by decide) (hw _ kb_346) (fun _ h9 => h9) rfl d_M_commit_131 ?_
                      refine lv_bipush (v := 8) hx hb d_M_commit_134 (by decide) ?_
                      refine lv_iload_n hx hb d_M_commit_136 rfl (lv_at hl 1 rfl) ?_
                      refine lv_imul hx hb d_M_commit_137 ?_
                      refine lv_iload_n hx hb d_M_commit_138 rfl (lv_at hl 2 rfl) ?_
                      refine lv_iadd hx hb d_M_commit_139 ?_
                      refine lv_aload_n hx hb d_M_commit_140 rfl (lv_at hl 0 rfl) ?_
                      refine va_get (D := (dC, dI)) (ci := 3) (v := .int tm) (C := R_M) (T := F_M) (N := 12) hx hb hw i_M hown hK hP 0 rfl rfl 2 (by decide) (hw _ kb_338) (fun _ h9 => h9) rfl d_M_commit_141 ?_
                      refine ms_he (i := q) (v := tm) hx hb hK hP hnd hAL hS hg hq d_M_commit_144 (fun H locs hP hS => ?_)
                      refine lv_iconst (v := 0) hx hb d_M_commit_145 (by decide) ?_
                      exact W.iret (v := 0) hx hb hr (fun t ht hW => ⟨⟨_, (0, lg, tm, rm_14, no_14, (va_up M g (x0, x1, x2, x3, x4, upd x5 q tm, vp_updL x6 b p4))), rfl, Or.inl ⟨⟨hp_p0, hp_p1, hp_p3, k_lc.mp (Int32.not_lt.mp c_7)⟩, by first | (simp only [md_commit, mg_hear, mg_off, hcg, hcq, if_neg c_3, hcb, if_neg c_5, if_neg c_7, hMg, hMu, if_neg c_10, if_pos c_11, if_pos c_12, if_pos c_13, hq_14, if_neg c_14]; done) | (simp [md_commit, mg_hear, mg_off, hcg, hcq, c_3, hcb, c_5, c_7, hMg, hMu, c_10, c_11, c_12, c_13, hq_14, c_14]; done)⟩, by show va_P _ _ _ t.heap; rw [ht]; exact hP⟩, hS.F ht⟩) hS.2.2 d_M_commit_146
                    · refine lv_bipush (v := (-2)) hx hb d_M_commit_113 (by decide) ?_
                      exact W.iret (v := (-2)) hx hb hr (fun t ht hW => ⟨⟨_, (0, lg, tm, rm_14, no_14, (va_up M g (x0, x1, x2, x3, x4, x5, x6))), rfl, Or.inl ⟨⟨hp_p0, hp_p1, hp_p3, k_lc.mp (Int32.not_lt.mp c_7)⟩, by first | (simp only [md_commit, mg_hear, mg_off, hcg, hcq, if_neg c_3, hcb, if_neg c_5, if_neg c_7, hMg, hMu, if_neg c_10, if_pos c_11, if_pos c_12, if_pos c_13, hq_14, if_pos c_14]; done) | (simp [md_commit, mg_hear, mg_off, hcg, hcq, c_3, hcb, c_5, c_7, hMg, hMu, c_10, c_11, c_12, c_13, hq_14, c_14]; done)⟩, by show va_P _ _ _ t.heap; rw [ht]; exact hP⟩, hS.F ht⟩) hS.2.2 d_M_commit_115
                  · refine lv_bipush (v := (-11)) hx hb d_M_commit_103 (by decide) ?_
                    exact W.iret (v := (-11)) hx hb hr (fun t ht hW => ⟨⟨_, (0, lg, tm, rm, no, (va_up M g (x0, x1, x2, x3, x4, x5, x6))), rfl, Or.inl ⟨⟨hp_p0, hp_p1, hp_p3, k_lc.mp (Int32.not_lt.mp c_7)⟩, by first | (simp only [md_commit, mg_hear, mg_off, hcg, hcq, if_neg c_3, hcb, if_neg c_5, if_neg c_7, hMg, hMu, if_neg c_10, if_pos c_11, if_pos c_12, if_neg c_13]; done) | (simp [md_commit, mg_hear, mg_off, hcg, hcq, c_3, hcb, c_5, c_7, hMg, hMu, c_10, c_11, c_12, c_13]; done)⟩, by show va_P _ _ _ t.heap; rw [ht]; exact hP⟩, hS.F ht⟩) hS.2.2 d_M_commit_105
                · refine lv_bipush (v := (-10)) hx hb d_M_commit_89 (by decide) ?_
                  exact W.iret (v := (-10)) hx hb hr (fun t ht hW => ⟨⟨_, (0, lg, tm, rm, no, (va_up M g (x0, x1, x2, x3, x4, x5, x6))), rfl, Or.inl ⟨⟨hp_p0, hp_p1, hp_p3, k_lc.mp (Int32.not_lt.mp c_7)⟩, by first | (simp only [md_commit, mg_hear, mg_off, hcg, hcq, if_neg c_3, hcb, if_neg c_5, if_neg c_7, hMg, hMu, if_neg c_10, if_pos c_11, if_neg c_12]; done) | (simp [md_commit, mg_hear, mg_off, hcg, hcq, c_3, hcb, c_5, c_7, hMg, hMu, c_10, c_11, c_12]; done)⟩, by show va_P _ _ _ t.heap; rw [ht]; exact hP⟩, hS.F ht⟩) hS.2.2 d_M_commit_91
              · refine lv_bipush (v := (-9)) hx hb d_M_commit_76 (by decide) ?_
                exact W.iret (v := (-9)) hx hb hr (fun t ht hW => ⟨⟨_, (0, lg, tm, rm, no, (va_up M g (x0, x1, x2, x3, x4, x5, x6))), rfl, Or.inl ⟨⟨hp_p0, hp_p1, hp_p3, k_lc.mp (Int32.not_lt.mp c_7)⟩, by first | (simp only [md_commit, mg_hear, mg_off, hcg, hcq, if_neg c_3, hcb, if_neg c_5, if_neg c_7, hMg, hMu, if_neg c_10, if_neg c_11]; done) | (simp [md_commit, mg_hear, mg_off, hcg, hcq, c_3, hcb, c_5, c_7, hMg, hMu, c_10, c_11]; done)⟩, by show va_P _ _ _ t.heap; rw [ht]; exact hP⟩, hS.F ht⟩) hS.2.2 d_M_commit_78
            · refine lv_bipush (v := (-8)) hx hb d_M_commit_63 (by decide) ?_
              exact W.iret (v := (-8)) hx hb hr (fun t ht hW => ⟨⟨_, (0, lg, tm, rm, no, (va_up M g (x0, x1, x2, x3, x4, x5, x6))), rfl, Or.inl ⟨⟨hp_p0, hp_p1, hp_p3, k_lc.mp (Int32.not_lt.mp c_7)⟩, by first | (simp only [md_commit, mg_hear, mg_off, hcg, hcq, if_neg c_3, hcb, if_neg c_5, if_neg c_7, hMg, hMu, if_pos c_10]; done) | (simp [md_commit, mg_hear, mg_off, hcg, hcq, c_3, hcb, c_5, c_7, hMg, hMu, c_10]; done)⟩, by show va_P _ _ _ t.heap; rw [ht]; exact hP⟩, hS.F ht⟩) hS.2.2 d_M_commit_65
    · skip
      refine lv_if_eq (tgt := 40) hx hb d_M_commit_12 (by decide) (fun c_15 => ?_) (fun c_15 => absurd c_15 (by decide))
      refine lv_iconst (v := 0) hx hb d_M_commit_40 (by decide) ?_
      refine kc_i (Wd := mwv cI cJ cZ a) (va_runV (As := [.int 0]) (rest := []) ⟨hx, hb, hml, hown, hw⟩ (c_M_goes0 l hnd co lg tm rm no M _) (cwV 1 hw (kb_V kb_385 kb_387 kb_s5 kb_6 kb_388) rfl rfl rfl (by decide +kernel) ⟨Nat.le_of_ble_eq_true rfl, Nat.le_of_ble_eq_true rfl⟩) (kPV (va_recv hK hP (ci := 3) (q0 := 0) rfl rfl) hP hK) rfl rfl hl.1 rfl (lv_room (Nat.le_of_ble_eq_true rfl)) d_M_commit_41 ⟨Nat.le_of_ble_eq_true rfl, Nat.le_of_ble_eq_true rfl⟩) hS hA hAL (fun r_16 u_15 H locs hw9 hP _ _ hS => ?_)
      obtain ⟨rfl, rfl⟩ := hw9
      have hP : va_P (dC, dI) vwCl (mw cI cJ cZ a 1 lg tm rm no M) _ := hP
      refine lv_if_ne (tgt := 49) hx hb d_M_commit_44 (by decide) (fun c_16 => absurd c_16 (by decide)) (fun c_16 => ?_)
      refine lv_iconst (v := 0) hx hb d_M_commit_47 (by decide) ?_
      exact W.iret (v := 0) hx hb hr (fun t ht hW => ⟨⟨_, (1, lg, tm, rm, no, M), rfl, Or.inr ⟨fun h => hp_p1 h.2.1, rfl⟩, by show va_P _ _ _ t.heap; rw [ht]; exact hP⟩, hS.F ht⟩) hS.2.2 d_M_commit_48
  · skip
    refine lv_if_eq (tgt := 40) hx hb d_M_commit_5 (by decide) (fun c_17 => ?_) (fun c_17 => absurd c_17 (by decide))
    refine lv_iconst (v := 0) hx hb d_M_commit_40 (by decide) ?_
    refine kc_i (Wd := mwv cI cJ cZ a) (va_runV (As := [.int 0]) (rest := []) ⟨hx, hb, hml, hown, hw⟩ (c_M_goes0 l hnd co lg tm rm no M _) (cwV 1 hw (kb_V kb_385 kb_387 kb_s5 kb_6 kb_388) rfl rfl rfl (by decide +kernel) ⟨Nat.le_of_ble_eq_true rfl, Nat.le_of_ble_eq_true rfl⟩) (kPV (va_recv hK hP (ci := 3) (q0 := 0) rfl rfl) hP hK) rfl rfl hl.1 rfl (lv_room (Nat.le_of_ble_eq_true rfl)) d_M_commit_41 ⟨Nat.le_of_ble_eq_true rfl, Nat.le_of_ble_eq_true rfl⟩) hS hA hAL (fun r_18 u_17 H locs hw9 hP _ _ hS => ?_)
    obtain ⟨rfl, rfl⟩ := hw9
    have hP : va_P (dC, dI) vwCl (mw cI cJ cZ a 1 lg tm rm no M) _ := hP
    refine lv_if_ne (tgt := 49) hx hb d_M_commit_44 (by decide) (fun c_18 => absurd c_18 (by decide)) (fun c_18 => ?_)
    refine lv_iconst (v := 0) hx hb d_M_commit_47 (by decide) ?_
    exact W.iret (v := 0) hx hb hr (fun t ht hW => ⟨⟨_, (1, lg, tm, rm, no, M), rfl, Or.inr ⟨fun h => hp_p0 h.1, rfl⟩, by show va_P _ _ _ t.heap; rw [ht]; exact hP⟩, hS.F ht⟩) hS.2.2 d_M_commit_48
set_option maxHeartbeats 4000000 in
set_option maxRecDepth 100000 in
theorem c_M_committed (l : Launch) {dC : Nat → ClassId} {dI : Nat → Nat → Nat} {cI cJ cZ : ClassId} {a : Nat → Nat} (hnd : (mad a).Nodup) (co lg tm rm no : Int32) (M : Nat → mGV) (p0 : Int32) (p1 : Int32) (hlg : ∃ n : Nat, n ≤ 8 ∧ lg = nI n) (sz : Nat) : Met l y_M_committed w_M_committed ({ frames := 1, cells := 0, slots := 0, locals := 30 }) (kPre (dC, dI) vwCl (mty cI cJ cZ) [.ref (a 0), .int p0, .int p1] sz (mw cI cJ cZ a co lg tm rm no M)) (va_Ql (fun (r : Int64) (u : mDV) => ((vp_in p0 8 ∧ (¬ p1 < 0 ∧ p1 < lg)) ∧ (r = (M p0.toNatClampNeg).2.2.2.2.2.2 p1.toNatClampNeg ∧ u = (0, lg, tm, rm, no, M))) ∨ (¬ (vp_in p0 8 ∧ (¬ p1 < 0 ∧ p1 < lg)) ∧ u = (1, lg, tm, rm, no, M))) (fun u t => va_P (dC, dI) vwCl (mwv cI cJ cZ a u) t.heap) (kA (mad a) sz)) 0 0 (kA (mad a) sz) := by
  refine Met.ofW (cc := b_M_committed) (maxL := 3) (ret := (some .long)) (by decide) rfl ?_
  intro p e s m args below meth c s₁ B hml hv
  obtain ⟨rfl, hsz, hP, hK⟩ := hv
  have hx := B.exec
  have hb := B.bytes
  have hr := B.returns
  have hts := atoms_spec (ws := w_M_committed) B.pre
  have hw := fun (w : Cond) (h : w ∈ kb_B) => hts w (List.mem_cons_of_mem _ h)
  have hown : s.vm.findClass R_M = some m.cls := findClass_of_methodNamed B.named
  have hlocks := B.notSynchronized
  subst hsz
  generalize hAe : kA (mad a) s.heap.size = A
  have hA : ∀ q : Nat, s.heap.size ≤ q → A q := fun q h => by rw [← hAe]; exact Or.inr h
  have hAL : ∀ q ∈ (mad a), A q := fun q h => by rw [← hAe]; exact Or.inl h
  have hS : va_S A s.heap s.heap [] := va_S.rf
  have hl := lv_entry ([.ref (a 0), .int p0, .int p1]) (n := 3) (Nat.le_of_ble_eq_true rfl)
  rw [lg_entry_eq]
  generalize (lg_sl ([.ref (a 0), .int p0, .int p1]) ++ List.replicate (3 - (lg_sl ([.ref (a 0), .int p0, .int p1])).length) Slot.unset).toArray = ls at hl ⊢
  have hl : lv_has ls 3 [(0, .ref (a 0)), (1, .int p0), (2, .int p1)] := hl
  refine lv_aload_n hx hb d_M_committed_0 rfl (lv_at hl 0 rfl) ?_
  refine lv_iload_n hx hb d_M_committed_1 rfl (lv_at hl 1 rfl) ?_
  refine vp_callSi (W.runS (As := [.int p0]) (rest := [.ref (a 0)]) ⟨hx, hb, hml, hown, hw⟩ (c_M_isOne l p0) (va_cwS 1 hw (kb_S kb_382 kb_383 kb_6 kb_384) rfl rfl rfl (by decide +kernel) ⟨Nat.le_of_ble_eq_true rfl, Nat.le_of_ble_eq_true rfl⟩) preEq rfl rfl hl.1 rfl (lv_room (Nat.le_of_ble_eq_true rfl)) d_M_committed_2 ⟨Nat.le_of_ble_eq_true rfl, Nat.le_of_ble_eq_true rfl⟩) (fun r_1 er_1 => ?_)
  rcases er_1 with ⟨rfl, hp_p0⟩ | ⟨rfl, hp_p0⟩
  · skip
    obtain ⟨g, hg, rfl⟩ := vp_in_of hp_p0 (by decide)
    have hcg : (nI g).toNatClampNeg = g := nI_clamp (by omega)
    refine lv_if_eq (tgt := 24) hx hb d_M_committed_5 (by decide) (fun c_1 => absurd c_1 (by decide)) (fun c_1 => ?_)
    refine lv_iload_n hx hb d_M_committed_8 rfl (lv_at hl 2 rfl) ?_
    refine lv_if_lt (tgt := 24) hx hb d_M_committed_9 (by decide) (fun c_2 => ?_) (fun c_2 => ?_)
    · refine lv_iconst (v := 1) hx hb d_M_committed_24 (by decide) ?_
      refine va_put (D := (dC, dI)) (ci := 3) (v := .int 1) (ty := .int) (C := R_M) (T := F_M) (N := 12) hx hb hw i_M t_M t_M_ok n_M hown hK hP (mw_D hnd hAL) hS 0 rfl rfl 0 (by decide) (hw _ kb_336) (fun _ h9 => h9) rfl (by decide +kernel) rfl rfl (Nat.le_of_ble_eq_true rfl) d_M_committed_25 (fun H locs hP _ hS => ?_)
      have hP : va_P (dC, dI) vwCl (mw cI cJ cZ a 1 lg tm rm no M) _ := hP
      refine lv_aload_n hx hb d_M_committed_28 rfl (lv_at hl 0 rfl) ?_
      refine va_get (D := (dC, dI)) (ci := 3) (v := .int 1) (C := R_M) (T := F_M) (N := 12) hx hb hw i_M hown hK hP 0 rfl rfl 0 (by decide) (hw _ kb_336) (fun _ h9 => h9) rfl d_M_committed_29 ?_
      refine lv_if_le (tgt := 39) hx hb d_M_committed_32 (by decide) (fun c_3 => absurd c_3 (by decide)) (fun c_3 => ?_)
      refine lv_lconst (v := 0) hx hb d_M_committed_35 (by decide) ?_
      refine lv_goto (tgt := 50) hx hb d_M_committed_36 (by decide) ?_
      exact W.lret (v := 0) hx hb hr (fun t ht hW => ⟨⟨_, (1, lg, tm, rm, no, M), rfl, Or.inr ⟨fun h => h.2.1 c_2, rfl⟩, by show va_P _ _ _ t.heap; rw [ht]; exact hP⟩, hS.F ht⟩) hS.2.2 d_M_committed_50
    · refine lv_iload_n hx hb d_M_committed_12 rfl (lv_at hl 2 rfl) ?_
      refine lv_aload_n hx hb d_M_committed_13 rfl (lv_at hl 0 rfl) ?_
      refine va_get (D := (dC, dI)) (ci := 3) (v := .int lg) (C := R_M) (T := F_M) (N := 12) hx hb hw i_M hown hK hP 0 rfl rfl 1 (by decide) (hw _ kb_337) (fun _ h9 => h9) rfl d_M_committed_14 ?_
      refine lv_icmp_ge (tgt := 24) hx hb d_M_committed_17 (by decide) (fun c_4 => ?_) (fun c_4 => ?_)
      · refine lv_iconst (v := 1) hx hb d_M_committed_24 (by decide) ?_
        refine va_put (D := (dC, dI)) (ci := 3) (v := .int 1) (ty := .int) (C := R_M) (T := F_M) (N := 12) hx hb hw i_M t_M t_M_ok n_M hown hK hP (mw_D hnd hAL) hS 0 rfl rfl 0 (by decide) (hw _ kb_336) (fun _ h9 => h9) rfl (by decide +kernel) rfl rfl (Nat.le_of_ble_eq_true rfl) d_M_committed_25 (fun H locs hP _ hS => ?_)
        have hP : va_P (dC, dI) vwCl (mw cI cJ cZ a 1 lg tm rm no M) _ := hP
        refine lv_aload_n hx hb d_M_committed_28 rfl (lv_at hl 0 rfl) ?_
        refine va_get (D := (dC, dI)) (ci := 3) (v := .int 1) (C := R_M) (T := F_M) (N := 12) hx hb hw i_M hown hK hP 0 rfl rfl 0 (by decide) (hw _ kb_336) (fun _ h9 => h9) rfl d_M_committed_29 ?_
        refine lv_if_le (tgt := 39) hx hb d_M_committed_32 (by decide) (fun c_5 => absurd c_5 (by decide)) (fun c_5 => ?_)
        refine lv_lconst (v := 0) hx hb d_M_committed_35 (by decide) ?_
        refine lv_goto (tgt := 50) hx hb d_M_committed_36 (by decide) ?_
        exact W.lret (v := 0) hx hb hr (fun t ht hW => ⟨⟨_, (1, lg, tm, rm, no, M), rfl, Or.inr ⟨fun h => absurd h.2.2 (Int32.not_lt.mpr c_4), rfl⟩, by show va_P _ _ _ t.heap; rw [ht]; exact hP⟩, hS.F ht⟩) hS.2.2 d_M_committed_50
      · have hp_p1 : ¬ p1 < 0 ∧ p1 < lg := ⟨c_2, Int32.not_le.mp c_4⟩
        have hp_lg : p1 < lg := hp_p1.2
        obtain ⟨b, hb8, hbe⟩ := vp_in_of (k_in8 hlg hp_p1) (by decide)
        subst hbe
        have hcb : (nI b).toNatClampNeg = b := nI_clamp (by omega)
        rw [← mv_at M g] at hP
        generalize hMg : M g = gv at hP
        obtain ⟨x0, x1, x2, x3, x4, x5, x6⟩ := gv
        have hMu : va_up M g (x0, x1, x2, x3, x4, x5, x6) = M := by rw [← hMg]; exact mv_at M g
        refine lv_iconst (v := 0) hx hb d_M_committed_20 (by decide) ?_
        refine lv_goto (tgt := 25) hx hb d_M_committed_21 (by decide) ?_
        refine va_put (D := (dC, dI)) (ci := 3) (v := .int 0) (ty := .int) (C := R_M) (T := F_M) (N := 12) hx hb hw i_M t_M t_M_ok n_M hown hK hP (mw_D hnd hAL) hS 0 rfl rfl 0 (by decide) (hw _ kb_336) (fun _ h9 => h9) rfl (by decide +kernel) rfl rfl (Nat.le_of_ble_eq_true rfl) d_M_committed_25 (fun H locs hP _ hS => ?_)
        have hP : va_P (dC, dI) vwCl (mw cI cJ cZ a 0 lg tm rm no (va_up M g (x0, x1, x2, x3, x4, x5, x6))) _ := hP
        refine lv_aload_n hx hb d_M_committed_28 rfl (lv_at hl 0 rfl) ?_
        refine va_get (D := (dC, dI)) (ci := 3) (v := .int 0) (C := R_M) (T := F_M) (N := 12) hx hb hw i_M hown hK hP 0 rfl rfl 0 (by decide) (hw _ kb_336) (fun _ h9 => h9) rfl d_M_committed_29 ?_
        refine lv_if_le (tgt := 39) hx hb d_M_committed_32 (by decide) (fun c_6 => ?_) (fun c_6 => absurd c_6 (by decide))
        refine lv_aload_n hx hb d_M_committed_39 rfl (lv_at hl 0 rfl) ?_
        refine va_get (D := (dC, dI)) (ci := 3) (v := .ref (a 7)) (C := R_M) (T := F_M) (N := 12) hx hb hw i_M hown hK hP 0 rfl rfl 11 (by decide) (hw _ kb_347) (fun _ h9 => h9) rfl d_M_committed_40 ?_
        refine lv_bipush (v := 8) hx hb d_M_committed_43 (by decide) ?_
        refine lv_iload_n hx hb d_M_committed_45 rfl (lv_at hl 1 rfl) ?_
        refine lv_imul hx hb d_M_committed_46 ?_
        refine lv_iload_n hx hb d_M_committed_47 rfl (lv_at hl 2 rfl) ?_
        refine lv_iadd hx hb d_M_committed_48 ?_
        refine ml_of (i := b) hx hb hK hP hg hb8 d_M_committed_49 ?_
        exact W.lret (v := (x6 b)) hx hb hr (fun t ht hW => ⟨⟨_, (0, lg, tm, rm, no, (va_up M g (x0, x1, x2, x3, x4, x5, x6))), rfl, Or.inl ⟨⟨hp_p0, hp_p1⟩, by first | (simp only [hcg, if_neg c_2, hcb, hMg, hMu, if_neg c_4]; done) | (simp [hcg, c_2, hcb, hMg, hMu, c_4]; done)⟩, by show va_P _ _ _ t.heap; rw [ht]; exact hP⟩, hS.F ht⟩) hS.2.2 d_M_committed_50
  · skip
    refine lv_if_eq (tgt := 24) hx hb d_M_committed_5 (by decide) (fun c_7 => ?_) (fun c_7 => absurd c_7 (by decide))
    refine lv_iconst (v := 1) hx hb d_M_committed_24 (by decide) ?_
    refine va_put (D := (dC, dI)) (ci := 3) (v := .int 1) (ty := .int) (C := R_M) (T := F_M) (N := 12) hx hb hw i_M t_M t_M_ok n_M hown hK hP (mw_D hnd hAL) hS 0 rfl rfl 0 (by decide) (hw _ kb_336) (fun _ h9 => h9) rfl (by decide +kernel) rfl rfl (Nat.le_of_ble_eq_true rfl) d_M_committed_25 (fun H locs hP _ hS => ?_)
    have hP : va_P (dC, dI) vwCl (mw cI cJ cZ a 1 lg tm rm no M) _ := hP
    refine lv_aload_n hx hb d_M_committed_28 rfl (lv_at hl 0 rfl) ?_
    refine va_get (D := (dC, dI)) (ci := 3) (v := .int 1) (C := R_M) (T := F_M) (N := 12) hx hb hw i_M hown hK hP 0 rfl rfl 0 (by decide) (hw _ kb_336) (fun _ h9 => h9) rfl d_M_committed_29 ?_
    refine lv_if_le (tgt := 39) hx hb d_M_committed_32 (by decide) (fun c_8 => absurd c_8 (by decide)) (fun c_8 => ?_)
    refine lv_lconst (v := 0) hx hb d_M_committed_35 (by decide) ?_
    refine lv_goto (tgt := 50) hx hb d_M_committed_36 (by decide) ?_
    exact W.lret (v := 0) hx hb hr (fun t ht hW => ⟨⟨_, (1, lg, tm, rm, no, M), rfl, Or.inr ⟨fun h => hp_p0 h.1, rfl⟩, by show va_P _ _ _ t.heap; rw [ht]; exact hP⟩, hS.F ht⟩) hS.2.2 d_M_committed_50
set_option maxHeartbeats 4000000 in
set_option maxRecDepth 100000 in
theorem c_M_room (l : Launch) {dC : Nat → ClassId} {dI : Nat → Nat → Nat} {cI cJ cZ : ClassId} {a : Nat → Nat} (hnd : (mad a).Nodup) (co lg tm rm no : Int32) (M : Nat → mGV) (p0 : Int32) (sz : Nat) : Met l y_M_room w_M_room ({ frames := 1, cells := 0, slots := 0, locals := 30 }) (kPre (dC, dI) vwCl (mty cI cJ cZ) [.ref (a 0), .int p0] sz (mw cI cJ cZ a co lg tm rm no M)) (va_Qi (fun (r : Int32) (u : mDV) => ((¬ p0 < 0 ∧ p0 ≤ 100000) ∧ (r, u) = (rm, (0, lg, tm, p0, no, M))) ∨ (¬ (¬ p0 < 0 ∧ p0 ≤ 100000) ∧ u = (1, lg, tm, rm, no, M))) (fun u t => va_P (dC, dI) vwCl (mwv cI cJ cZ a u) t.heap) (kA (mad a) sz)) 0 0 (kA (mad a) sz) := by
  refine Met.ofW (cc := b_M_room) (maxL := 3) (ret := (some .int)) (by decide) rfl ?_
  intro p e s m args below meth c s₁ B hml hv
  obtain ⟨rfl, hsz, hP, hK⟩ := hv
  have hx := B.exec
  have hb := B.bytes
  have hr := B.returns
  have hts := atoms_spec (ws := w_M_room) B.pre
  have hw := fun (w : Cond) (h : w ∈ kb_B) => hts w (List.mem_cons_of_mem _ h)
  have hown : s.vm.findClass R_M = some m.cls := findClass_of_methodNamed B.named
  have hlocks := B.notSynchronized
  subst hsz
  generalize hAe : kA (mad a) s.heap.size = A
  have hA : ∀ q : Nat, s.heap.size ≤ q → A q := fun q h => by rw [← hAe]; exact Or.inr h
  have hAL : ∀ q ∈ (mad a), A q := fun q h => by rw [← hAe]; exact Or.inl h
  have hS : va_S A s.heap s.heap [] := va_S.rf
  have hl := lv_entry ([.ref (a 0), .int p0]) (n := 3) (Nat.le_of_ble_eq_true rfl)
  rw [lg_entry_eq]
  generalize (lg_sl ([.ref (a 0), .int p0]) ++ List.replicate (3 - (lg_sl ([.ref (a 0), .int p0])).length) Slot.unset).toArray = ls at hl ⊢
  have hl : lv_has ls 3 [(0, .ref (a 0)), (1, .int p0)] := hl
  refine lv_aload_n hx hb d_M_room_0 rfl (lv_at hl 0 rfl) ?_
  refine lv_iload_n hx hb d_M_room_1 rfl (lv_at hl 1 rfl) ?_
  refine lv_if_lt (tgt := 15) hx hb d_M_room_2 (by decide) (fun c_1 => ?_) (fun c_1 => ?_)
  · refine lv_iconst (v := 0) hx hb d_M_room_15 (by decide) ?_
    refine kc_i (Wd := mwv cI cJ cZ a) (va_runV (As := [.int 0]) (rest := []) ⟨hx, hb, hml, hown, hw⟩ (c_M_goes0 l hnd co lg tm rm no M _) (cwV 1 hw (kb_V kb_385 kb_387 kb_s5 kb_6 kb_388) rfl rfl rfl (by decide +kernel) ⟨Nat.le_of_ble_eq_true rfl, Nat.le_of_ble_eq_true rfl⟩) (kPV (va_recv hK hP (ci := 3) (q0 := 0) rfl rfl) hP hK) rfl rfl hl.1 rfl (lv_room (Nat.le_of_ble_eq_true rfl)) d_M_room_16 ⟨Nat.le_of_ble_eq_true rfl, Nat.le_of_ble_eq_true rfl⟩) hS hA hAL (fun r_2 u_1 H locs hw9 hP _ _ hS => ?_)
    obtain ⟨rfl, rfl⟩ := hw9
    have hP : va_P (dC, dI) vwCl (mw cI cJ cZ a 1 lg tm rm no M) _ := hP
    refine lv_if_ne (tgt := 24) hx hb d_M_room_19 (by decide) (fun c_2 => absurd c_2 (by decide)) (fun c_2 => ?_)
    refine lv_iconst (v := 0) hx hb d_M_room_22 (by decide) ?_
    exact W.iret (v := 0) hx hb hr (fun t ht hW => ⟨⟨_, (1, lg, tm, rm, no, M), rfl, Or.inr ⟨fun h => h.1 c_1, rfl⟩, by show va_P _ _ _ t.heap; rw [ht]; exact hP⟩, hS.F ht⟩) hS.2.2 d_M_room_23
  · refine lv_iload_n hx hb d_M_room_5 rfl (lv_at hl 1 rfl) ?_
    refine lv_ldc (v := 100000) hx hb hown (hw _ kb_449) d_M_room_6 ?_
    refine lv_icmp_gt (tgt := 15) hx hb d_M_room_8 (by decide) (fun c_3 => ?_) (fun c_3 => ?_)
    · refine lv_iconst (v := 0) hx hb d_M_room_15 (by decide) ?_
      refine kc_i (Wd := mwv cI cJ cZ a) (va_runV (As := [.int 0]) (rest := []) ⟨hx, hb, hml, hown, hw⟩ (c_M_goes0 l hnd co lg tm rm no M _) (cwV 1 hw (kb_V kb_385 kb_387 kb_s5 kb_6 kb_388) rfl rfl rfl (by decide +kernel) ⟨Nat.le_of_ble_eq_true rfl, Nat.le_of_ble_eq_true rfl⟩) (kPV (va_recv hK hP (ci := 3) (q0 := 0) rfl rfl) hP hK) rfl rfl hl.1 rfl (lv_room (Nat.le_of_ble_eq_true rfl)) d_M_room_16 ⟨Nat.le_of_ble_eq_true rfl, Nat.le_of_ble_eq_true rfl⟩) hS hA hAL (fun r_4 u_3 H locs hw9 hP _ _ hS => ?_)
      obtain ⟨rfl, rfl⟩ := hw9
      have hP : va_P (dC, dI) vwCl (mw cI cJ cZ a 1 lg tm rm no M) _ := hP
      refine lv_if_ne (tgt := 24) hx hb d_M_room_19 (by decide) (fun c_4 => absurd c_4 (by decide)) (fun c_4 => ?_)
      refine lv_iconst (v := 0) hx hb d_M_room_22 (by decide) ?_
      exact W.iret (v := 0) hx hb hr (fun t ht hW => ⟨⟨_, (1, lg, tm, rm, no, M), rfl, Or.inr ⟨fun h => absurd h.2 (Int32.not_le.mpr c_3), rfl⟩, by show va_P _ _ _ t.heap; rw [ht]; exact hP⟩, hS.F ht⟩) hS.2.2 d_M_room_23
    · refine lv_iconst (v := 1) hx hb d_M_room_11 (by decide) ?_
      refine lv_goto (tgt := 16) hx hb d_M_room_12 (by decide) ?_
      refine kc_i (Wd := mwv cI cJ cZ a) (va_runV (As := [.int 1]) (rest := []) ⟨hx, hb, hml, hown, hw⟩ (c_M_goes1 l hnd co lg tm rm no M _) (cwV 1 hw (kb_V kb_385 kb_387 kb_s5 kb_6 kb_388) rfl rfl rfl (by decide +kernel) ⟨Nat.le_of_ble_eq_true rfl, Nat.le_of_ble_eq_true rfl⟩) (kPV (va_recv hK hP (ci := 3) (q0 := 0) rfl rfl) hP hK) rfl rfl hl.1 rfl (lv_room (Nat.le_of_ble_eq_true rfl)) d_M_room_16 ⟨Nat.le_of_ble_eq_true rfl, Nat.le_of_ble_eq_true rfl⟩) hS hA hAL (fun r_6 u_5 H locs hw9 hP _ _ hS => ?_)
      obtain ⟨rfl, rfl⟩ := hw9
      have hP : va_P (dC, dI) vwCl (mw cI cJ cZ a 0 lg tm rm no M) _ := hP
      refine lv_if_ne (tgt := 24) hx hb d_M_room_19 (by decide) (fun c_5 => ?_) (fun c_5 => absurd c_5 (by decide))
      refine lv_aload_n hx hb d_M_room_24 rfl (lv_at hl 0 rfl) ?_
      refine va_get (D := (dC, dI)) (ci := 3) (v := .int rm) (C := R_M) (T := F_M) (N := 12) hx hb hw i_M hown hK hP 0 rfl rfl 3 (by decide) (hw _ kb_339) (fun _ h9 => h9) rfl d_M_room_25 ?_
      refine lv_istore_n (lv' := [(2, .int rm), (0, .ref (a 0)), (1, .int p0)]) hx hb d_M_room_28 rfl hl (by decide) rfl (fun ls hl => ?_)
      refine lv_aload_n hx hb d_M_room_29 rfl (lv_at hl 1 rfl) ?_
      refine lv_iload_n hx hb d_M_room_30 rfl (lv_at hl 2 rfl) ?_
      refine va_put (D := (dC, dI)) (ci := 3) (v := .int p0) (ty := .int) (C := R_M) (T := F_M) (N := 12) hx hb hw i_M t_M t_M_ok n_M hown hK hP (mw_D hnd hAL) hS 0 rfl rfl 3 (by decide) (hw _ kb_339) (fun _ h9 => h9) rfl (by decide +kernel) rfl rfl (Nat.le_of_ble_eq_true rfl) d_M_room_31 (fun H locs hP _ hS => ?_)
      have hP : va_P (dC, dI) vwCl (mw cI cJ cZ a 0 lg tm p0 no M) _ := hP
      refine lv_iload_n hx hb d_M_room_34 rfl (lv_at hl 0 rfl) ?_
      exact W.iret (v := rm) hx hb hr (fun t ht hW => ⟨⟨_, (0, lg, tm, p0, no, M), rfl, Or.inl ⟨⟨c_1, Int32.not_lt.mp c_3⟩, by first | (simp only [if_neg c_1, if_neg c_3]; done) | (simp [c_1, c_3]; done)⟩, by show va_P _ _ _ t.heap; rw [ht]; exact hP⟩, hS.F ht⟩) hS.2.2 d_M_room_35
set_option maxHeartbeats 4000000 in
set_option maxRecDepth 100000 in
theorem c_M_notes (l : Launch) {dC : Nat → ClassId} {dI : Nat → Nat → Nat} {cI cJ cZ : ClassId} {a : Nat → Nat} (hnd : (mad a).Nodup) (co lg tm rm no : Int32) (M : Nat → mGV) (sz : Nat) : Met l y_M_notes w_M_notes ({ frames := 0, cells := 0, slots := 0, locals := 0 }) (kPre (dC, dI) vwCl (mty cI cJ cZ) [.ref (a 0)] sz (mw cI cJ cZ a co lg tm rm no M)) (va_Qi (fun (r : Int32) (u : mDV) => r = no ∧ u = (0, lg, tm, rm, no, M)) (fun u t => va_P (dC, dI) vwCl (mwv cI cJ cZ a u) t.heap) (kA (mad a) sz)) 0 0 (kA (mad a) sz) := by
  refine Met.ofW (cc := b_M_notes) (maxL := 1) (ret := (some .int)) (by decide) rfl ?_
  intro p e s m args below meth c s₁ B hml hv
  obtain ⟨rfl, hsz, hP, hK⟩ := hv
  have hx := B.exec
  have hb := B.bytes
  have hr := B.returns
  have hts := atoms_spec (ws := w_M_notes) B.pre
  have hw := fun (w : Cond) (h : w ∈ kb_B) => hts w (List.mem_cons_of_mem _ h)
  have hown : s.vm.findClass R_M = some m.cls := findClass_of_methodNamed B.named
  have hlocks := B.notSynchronized
  subst hsz
  generalize hAe : kA (mad a) s.heap.size = A
  have hA : ∀ q : Nat, s.heap.size ≤ q → A q := fun q h => by rw [← hAe]; exact Or.inr h
  have hAL : ∀ q ∈ (mad a), A q := fun q h => by rw [← hAe]; exact Or.inl h
  have hS : va_S A s.heap s.heap [] := va_S.rf
  have hl := lv_entry ([.ref (a 0)]) (n := 1) (Nat.le_of_ble_eq_true rfl)
  rw [lg_entry_eq]
  generalize (lg_sl ([.ref (a 0)]) ++ List.replicate (1 - (lg_sl ([.ref (a 0)])).length) Slot.unset).toArray = ls at hl ⊢
  have hl : lv_has ls 1 [(0, .ref (a 0))] := hl
  refine lv_aload_n hx hb d_M_notes_0 rfl (lv_at hl 0 rfl) ?_
  refine lv_iconst (v := 0) hx hb d_M_notes_1 (by decide) ?_
  refine va_put (D := (dC, dI)) (ci := 3) (v := .int 0) (ty := .int) (C := R_M) (T := F_M) (N := 12) hx hb hw i_M t_M t_M_ok n_M hown hK hP (mw_D hnd hAL) hS 0 rfl rfl 0 (by decide) (hw _ kb_336) (fun _ h9 => h9) rfl (by decide +kernel) rfl rfl (Nat.le_of_ble_eq_true rfl) d_M_notes_2 (fun H locs hP _ hS => ?_)
  have hP : va_P (dC, dI) vwCl (mw cI cJ cZ a 0 lg tm rm no M) _ := hP
  refine lv_aload_n hx hb d_M_notes_5 rfl (lv_at hl 0 rfl) ?_
  refine va_get (D := (dC, dI)) (ci := 3) (v := .int no) (C := R_M) (T := F_M) (N := 12) hx hb hw i_M hown hK hP 0 rfl rfl 4 (by decide) (hw _ kb_340) (fun _ h9 => h9) rfl d_M_notes_6 ?_
  exact W.iret (v := no) hx hb hr (fun t ht hW => ⟨⟨_, (0, lg, tm, rm, no, M), rfl, ⟨by first | (simp only []; done) | (simp []; done), by first | (simp only []; done) | (simp []; done)⟩, by show va_P _ _ _ t.heap; rw [ht]; exact hP⟩, hS.F ht⟩) hS.2.2 d_M_notes_9
end
section
theorem m_45 {x : Int32} : 4 < x ↔ ¬ x < 5 := by
  rw [Int32.lt_iff_toInt_lt, Int32.lt_iff_toInt_lt]
  show 4 < x.toInt ↔ ¬ x.toInt < 5
  omega
theorem m_sub1 (x : Int32) : x - 1 = x + (-1) := Int32.sub_eq_add_neg x 1
set_option maxHeartbeats 4000000 in
set_option maxRecDepth 100000 in
theorem lp_M_group {p : Program} {l : Launch} {e : Env} {s : State} {m : MethodId} {args : Array Value} {below : List Frame} {meth : Method} {c : Code} {Q : State → Prop} {dC : Nat → ClassId} {dI : Nat → Nat → Nat} {cI cJ cZ : ClassId} {a : Nat → Nat} (hnd : (mad a).Nodup) {co lg tm rm no : Int32} {M : Nat → mGV} {g : Nat} (hg : g < 8) {x0 x1 x2 : Int32} {x3 x4 x5 : Nat → Int32} {x6 : Nat → Int64} {p1 : Int32} {B : Int32} {H : Heap} {locs : List Loc} (hx : p.tables.exec = Jvm.exec) (hb : c.code = b_M_group) (hml : c.maxLocals = 6) (hown : s.vm.findClass R_M = some m.cls) (hw : ∀ w ∈ kb_B, w.before args s = true) (hK : va_K (dC, dI) vwCl (mty cI cJ cZ) s)  (hP : va_P (dC, dI) vwCl (mw cI cJ cZ a co lg tm rm no (va_up M g (x0, x1, x2, x3, x4, x5, x6))) H)
    (kk : ∀ ls : Array Slot, lv_has ls 6 [(3, .int B), (0, .ref (a 0)), (1, .int (nI g)), (2, .int p1)] → W p l e (headSpec w_M_group ({ frames := 1, cells := 0, slots := 0, locals := 30 })).room s m args below meth c H locs 0 0 Q (F0 m 183 ls [])) :
    ∀ (k : Nat) (b : Int32) (ls : Array Slot), k ≤ 8 → mbd (mg_is p1 x0 x3 x4) k b = B → lv_has ls 6 [(4, .int (nI k + (-1))), (3, .int b), (0, .ref (a 0)), (1, .int (nI g)), (2, .int p1)] → W p l e (headSpec w_M_group ({ frames := 1, cells := 0, slots := 0, locals := 30 })).room s m args below meth c H locs 0 0 Q (F0 m 105 ls []) := by
  intro k
  induction k with
  | zero =>
    intro b ls hk hB hl
    have hB : b = B := hB
    subst hB
    refine lv_iload hx hb d_M_group_105 (lv_at hl 0 rfl) ?_
    refine lv_if_lt (tgt := 183) hx hb d_M_group_107 (by decide) (fun c_1 => ?_) (fun c_1 => ?_)
    · exact kk ls (lv_sub hl [1, 2, 3, 4] rfl)
    · exact absurd (show nI 0 + (-1) < 0 by decide) c_1
  | succ k ih =>
    intro b ls hk hB hl
    rw [m_pred] at hl
    refine lv_iload hx hb d_M_group_105 (lv_at hl 0 rfl) ?_
    refine lv_if_lt (tgt := 183) hx hb d_M_group_107 (by decide) (fun c_1 => ?_) (fun c_1 => ?_)
    · exact absurd c_1 (nI_pos (by omega))
    · refine lv_aload_n hx hb d_M_group_110 rfl (lv_at hl 2 rfl) ?_
      refine va_get (D := (dC, dI)) (ci := 3) (v := .ref (a 4)) (C := R_M) (T := F_M) (N := 12) hx hb hw i_M hown hK hP 0 rfl rfl 8 (by decide) (hw _ kb_344) (fun _ h9 => h9) rfl d_M_group_111 ?_
      refine lv_bipush (v := 8) hx hb d_M_group_114 (by decide) ?_
      refine lv_iload_n hx hb d_M_group_116 rfl (lv_at hl 3 rfl) ?_
      refine lv_imul hx hb d_M_group_117 ?_
      refine lv_iload hx hb d_M_group_118 (lv_at hl 0 rfl) ?_
      refine lv_iadd hx hb d_M_group_120 ?_
      refine ml_me (i := k) hx hb hK hP hg (show k < 8 by omega) d_M_group_121 ?_
      refine lv_if_eq (tgt := 159) hx hb d_M_group_122 (by decide) (fun c_2 => ?_) (fun c_2 => ?_)
      · refine lv_iconst (v := 0) hx hb d_M_group_159 (by decide) ?_
        refine lv_istore (lv' := [(5, .int 0), (4, .int (nI k)), (3, .int b), (0, .ref (a 0)), (1, .int (nI g)), (2, .int p1)]) hx hb d_M_group_160 hl (by decide) rfl (fun ls hl => ?_)
        refine lv_iconst (v := 2) hx hb d_M_group_162 (by decide) ?_
        refine lv_iload_n hx hb d_M_group_163 rfl (lv_at hl 2 rfl) ?_
        refine lv_imul hx hb d_M_group_164 ?_
        refine lv_iload hx hb d_M_group_165 (lv_at hl 0 rfl) ?_
        refine lv_if_eq (tgt := 174) hx hb d_M_group_167 (by decide) (fun c_3 => ?_) (fun c_3 => absurd c_3 (by decide))
        refine lv_iconst (v := 0) hx hb d_M_group_174 (by decide) ?_
        refine lv_iadd hx hb d_M_group_175 ?_
        refine lv_istore_n (lv' := [(3, .int (((2 : Int32) * b) + (0 : Int32))), (5, .int 0), (4, .int (nI k)), (0, .ref (a 0)), (1, .int (nI g)), (2, .int p1)]) hx hb d_M_group_176 rfl hl (by decide) rfl (fun ls hl => ?_)
        refine lv_iinc (v := (nI k) + (-1)) (lv' := [(4, .int ((nI k) + (-1))), (3, .int (((2 : Int32) * b) + (0 : Int32))), (5, .int 0), (0, .ref (a 0)), (1, .int (nI g)), (2, .int p1)]) hx hb d_M_group_177 hl (k := 2) rfl rfl (by decide) rfl (fun ls hl => ?_)
        refine lv_goto (tgt := 105) hx hb d_M_group_180 (by decide) ?_
        have hs : (mg_is p1 x0 x3 x4) k = 0 := by simp only [mg_is, if_pos c_2]
        exact ih _ ls (by omega) (by rw [← hB, mbd, hs]) (lv_sub hl [0, 1, 3, 4, 5] rfl)
      · refine lv_iload_n hx hb d_M_group_125 rfl (lv_at hl 4 rfl) ?_
        refine lv_iconst (v := 2) hx hb d_M_group_126 (by decide) ?_
        refine lv_icmp_eq (tgt := 155) hx hb d_M_group_127 (by decide) (fun c_4 => ?_) (fun c_4 => ?_)
        · refine lv_iconst (v := 1) hx hb d_M_group_155 (by decide) ?_
          refine lv_goto (tgt := 160) hx hb d_M_group_156 (by decide) ?_
          refine lv_istore (lv' := [(5, .int 1), (4, .int (nI k)), (3, .int b), (0, .ref (a 0)), (1, .int (nI g)), (2, .int p1)]) hx hb d_M_group_160 hl (by decide) rfl (fun ls hl => ?_)
          refine lv_iconst (v := 2) hx hb d_M_group_162 (by decide) ?_
          refine lv_iload_n hx hb d_M_group_163 rfl (lv_at hl 2 rfl) ?_
          refine lv_imul hx hb d_M_group_164 ?_
          refine lv_iload hx hb d_M_group_165 (lv_at hl 0 rfl) ?_
          refine lv_if_eq (tgt := 174) hx hb d_M_group_167 (by decide) (fun c_5 => absurd c_5 (by decide)) (fun c_5 => ?_)
          refine lv_iconst (v := 1) hx hb d_M_group_170 (by decide) ?_
          refine lv_goto (tgt := 175) hx hb d_M_group_171 (by decide) ?_
          refine lv_iadd hx hb d_M_group_175 ?_
          refine lv_istore_n (lv' := [(3, .int (((2 : Int32) * b) + (1 : Int32))), (5, .int 1), (4, .int (nI k)), (0, .ref (a 0)), (1, .int (nI g)), (2, .int p1)]) hx hb d_M_group_176 rfl hl (by decide) rfl (fun ls hl => ?_)
          refine lv_iinc (v := (nI k) + (-1)) (lv' := [(4, .int ((nI k) + (-1))), (3, .int (((2 : Int32) * b) + (1 : Int32))), (5, .int 1), (0, .ref (a 0)), (1, .int (nI g)), (2, .int p1)]) hx hb d_M_group_177 hl (k := 2) rfl rfl (by decide) rfl (fun ls hl => ?_)
          refine lv_goto (tgt := 105) hx hb d_M_group_180 (by decide) ?_
          have hs : (mg_is p1 x0 x3 x4) k = 1 := by simp only [mg_is, if_neg c_2, if_pos c_4]
          exact ih _ ls (by omega) (by rw [← hB, mbd, hs]) (lv_sub hl [0, 1, 3, 4, 5] rfl)
        · refine lv_aload_n hx hb d_M_group_130 rfl (lv_at hl 2 rfl) ?_
          refine va_get (D := (dC, dI)) (ci := 3) (v := .ref (a 1)) (C := R_M) (T := F_M) (N := 12) hx hb hw i_M hown hK hP 0 rfl rfl 5 (by decide) (hw _ kb_341) (fun _ h9 => h9) rfl d_M_group_131 ?_
          refine lv_iload_n hx hb d_M_group_134 rfl (lv_at hl 3 rfl) ?_
          refine ml_st hx hb hK hP hg d_M_group_135 ?_
          refine lv_iconst (v := 2) hx hb d_M_group_136 (by decide) ?_
          refine lv_icmp_eq (tgt := 155) hx hb d_M_group_137 (by decide) (fun c_6 => ?_) (fun c_6 => ?_)
          · refine lv_iconst (v := 1) hx hb d_M_group_155 (by decide) ?_
            refine lv_goto (tgt := 160) hx hb d_M_group_156 (by decide) ?_
            refine lv_istore (lv' := [(5, .int 1), (4, .int (nI k)), (3, .int b), (0, .ref (a 0)), (1, .int (nI g)), (2, .int p1)]) hx hb d_M_group_160 hl (by decide) rfl (fun ls hl => ?_)
            refine lv_iconst (v := 2) hx hb d_M_group_162 (by decide) ?_
            refine lv_iload_n hx hb d_M_group_163 rfl (lv_at hl 2 rfl) ?_
            refine lv_imul hx hb d_M_group_164 ?_
            refine lv_iload hx hb d_M_group_165 (lv_at hl 0 rfl) ?_
            refine lv_if_eq (tgt := 174) hx hb d_M_group_167 (by decide) (fun c_7 => absurd c_7 (by decide)) (fun c_7 => ?_)
            refine lv_iconst (v := 1) hx hb d_M_group_170 (by decide) ?_
            refine lv_goto (tgt := 175) hx hb d_M_group_171 (by decide) ?_
            refine lv_iadd hx hb d_M_group_175 ?_
            refine lv_istore_n (lv' := [(3, .int (((2 : Int32) * b) + (1 : Int32))), (5, .int 1), (4, .int (nI k)), (0, .ref (a 0)), (1, .int (nI g)), (2, .int p1)]) hx hb d_M_group_176 rfl hl (by decide) rfl (fun ls hl => ?_)
            refine lv_iinc (v := (nI k) + (-1)) (lv' := [(4, .int ((nI k) + (-1))), (3, .int (((2 : Int32) * b) + (1 : Int32))), (5, .int 1), (0, .ref (a 0)), (1, .int (nI g)), (2, .int p1)]) hx hb d_M_group_177 hl (k := 2) rfl rfl (by decide) rfl (fun ls hl => ?_)
            refine lv_goto (tgt := 105) hx hb d_M_group_180 (by decide) ?_
            have hs : (mg_is p1 x0 x3 x4) k = 1 := by simp only [mg_is, if_neg c_2, if_neg c_4, if_pos c_6]
            exact ih _ ls (by omega) (by rw [← hB, mbd, hs]) (lv_sub hl [0, 1, 3, 4, 5] rfl)
          · refine lv_aload_n hx hb d_M_group_140 rfl (lv_at hl 2 rfl) ?_
            refine va_get (D := (dC, dI)) (ci := 3) (v := .ref (a 5)) (C := R_M) (T := F_M) (N := 12) hx hb hw i_M hown hK hP 0 rfl rfl 9 (by decide) (hw _ kb_345) (fun _ h9 => h9) rfl d_M_group_141 ?_
            refine lv_bipush (v := 8) hx hb d_M_group_144 (by decide) ?_
            refine lv_iload_n hx hb d_M_group_146 rfl (lv_at hl 3 rfl) ?_
            refine lv_imul hx hb d_M_group_147 ?_
            refine lv_iload hx hb d_M_group_148 (lv_at hl 0 rfl) ?_
            refine lv_iadd hx hb d_M_group_150 ?_
            refine ml_jo (i := k) hx hb hK hP hg (show k < 8 by omega) d_M_group_151 ?_
            refine lv_if_eq (tgt := 159) hx hb d_M_group_152 (by decide) (fun c_8 => ?_) (fun c_8 => ?_)
            · refine lv_iconst (v := 0) hx hb d_M_group_159 (by decide) ?_
              refine lv_istore (lv' := [(5, .int 0), (4, .int (nI k)), (3, .int b), (0, .ref (a 0)), (1, .int (nI g)), (2, .int p1)]) hx hb d_M_group_160 hl (by decide) rfl (fun ls hl => ?_)
              refine lv_iconst (v := 2) hx hb d_M_group_162 (by decide) ?_
              refine lv_iload_n hx hb d_M_group_163 rfl (lv_at hl 2 rfl) ?_
              refine lv_imul hx hb d_M_group_164 ?_
              refine lv_iload hx hb d_M_group_165 (lv_at hl 0 rfl) ?_
              refine lv_if_eq (tgt := 174) hx hb d_M_group_167 (by decide) (fun c_9 => ?_) (fun c_9 => absurd c_9 (by decide))
              refine lv_iconst (v := 0) hx hb d_M_group_174 (by decide) ?_
              refine lv_iadd hx hb d_M_group_175 ?_
              refine lv_istore_n (lv' := [(3, .int (((2 : Int32) * b) + (0 : Int32))), (5, .int 0), (4, .int (nI k)), (0, .ref (a 0)), (1, .int (nI g)), (2, .int p1)]) hx hb d_M_group_176 rfl hl (by decide) rfl (fun ls hl => ?_)
              refine lv_iinc (v := (nI k) + (-1)) (lv' := [(4, .int ((nI k) + (-1))), (3, .int (((2 : Int32) * b) + (0 : Int32))), (5, .int 0), (0, .ref (a 0)), (1, .int (nI g)), (2, .int p1)]) hx hb d_M_group_177 hl (k := 2) rfl rfl (by decide) rfl (fun ls hl => ?_)
              refine lv_goto (tgt := 105) hx hb d_M_group_180 (by decide) ?_
              have hs : (mg_is p1 x0 x3 x4) k = 0 := by simp only [mg_is, if_neg c_2, if_neg c_4, if_neg c_6, if_pos c_8]
              exact ih _ ls (by omega) (by rw [← hB, mbd, hs]) (lv_sub hl [0, 1, 3, 4, 5] rfl)
            · refine lv_iconst (v := 1) hx hb d_M_group_155 (by decide) ?_
              refine lv_goto (tgt := 160) hx hb d_M_group_156 (by decide) ?_
              refine lv_istore (lv' := [(5, .int 1), (4, .int (nI k)), (3, .int b), (0, .ref (a 0)), (1, .int (nI g)), (2, .int p1)]) hx hb d_M_group_160 hl (by decide) rfl (fun ls hl => ?_)
              refine lv_iconst (v := 2) hx hb d_M_group_162 (by decide) ?_
              refine lv_iload_n hx hb d_M_group_163 rfl (lv_at hl 2 rfl) ?_
              refine lv_imul hx hb d_M_group_164 ?_
              refine lv_iload hx hb d_M_group_165 (lv_at hl 0 rfl) ?_
              refine lv_if_eq (tgt := 174) hx hb d_M_group_167 (by decide) (fun c_10 => absurd c_10 (by decide)) (fun c_10 => ?_)
              refine lv_iconst (v := 1) hx hb d_M_group_170 (by decide) ?_
              refine lv_goto (tgt := 175) hx hb d_M_group_171 (by decide) ?_
              refine lv_iadd hx hb d_M_group_175 ?_
              refine lv_istore_n (lv' := [(3, .int (((2 : Int32) * b) + (1 : Int32))), (5, .int 1), (4, .int (nI k)), (0, .ref (a 0)), (1, .int (nI g)), (2, .int p1)]) hx hb d_M_group_176 rfl hl (by decide) rfl (fun ls hl => ?_)
              refine lv_iinc (v := (nI k) + (-1)) (lv' := [(4, .int ((nI k) + (-1))), (3, .int (((2 : Int32) * b) + (1 : Int32))), (5, .int 1), (0, .ref (a 0)), (1, .int (nI g)), (2, .int p1)]) hx hb d_M_group_177 hl (k := 2) rfl rfl (by decide) rfl (fun ls hl => ?_)
              refine lv_goto (tgt := 105) hx hb d_M_group_180 (by decide) ?_
              have hs : (mg_is p1 x0 x3 x4) k = 1 := by simp only [mg_is, if_neg c_2, if_neg c_4, if_neg c_6, if_neg c_8]
              exact ih _ ls (by omega) (by rw [← hB, mbd, hs]) (lv_sub hl [0, 1, 3, 4, 5] rfl)
set_option maxHeartbeats 4000000 in
set_option maxRecDepth 100000 in
theorem c_M_group (l : Launch) {dC : Nat → ClassId} {dI : Nat → Nat → Nat} {cI cJ cZ : ClassId} {a : Nat → Nat} (hnd : (mad a).Nodup) (co lg tm rm no : Int32) (M : Nat → mGV) (p0 : Int32) (p1 : Int32) (sz : Nat) : Met l y_M_group w_M_group ({ frames := 1, cells := 0, slots := 0, locals := 30 }) (kPre (dC, dI) vwCl (mty cI cJ cZ) [.ref (a 0), .int p0, .int p1] sz (mw cI cJ cZ a co lg tm rm no M)) (va_Qi (fun (r : Int32) (u : mDV) => ((vp_in p0 8 ∧ vp_in p1 5) ∧ (r, u) = (mg_what tm p1 (M p0.toNatClampNeg), (0, lg, tm, rm, no, M))) ∨ (¬ (vp_in p0 8 ∧ vp_in p1 5) ∧ u = (1, lg, tm, rm, no, M))) (fun u t => va_P (dC, dI) vwCl (mwv cI cJ cZ a u) t.heap) (kA (mad a) sz)) 0 0 (kA (mad a) sz) := by
  refine Met.ofW (cc := b_M_group) (maxL := 6) (ret := (some .int)) (by decide) rfl ?_
  intro p e s m args below meth c s₁ B hml hv
  obtain ⟨rfl, hsz, hP, hK⟩ := hv
  have hx := B.exec
  have hb := B.bytes
  have hr := B.returns
  have hts := atoms_spec (ws := w_M_group) B.pre
  have hw := fun (w : Cond) (h : w ∈ kb_B) => hts w (List.mem_cons_of_mem _ h)
  have hown : s.vm.findClass R_M = some m.cls := findClass_of_methodNamed B.named
  have hlocks := B.notSynchronized
  subst hsz
  generalize hAe : kA (mad a) s.heap.size = A
  have hA : ∀ q : Nat, s.heap.size ≤ q → A q := fun q h => by rw [← hAe]; exact Or.inr h
  have hAL : ∀ q ∈ (mad a), A q := fun q h => by rw [← hAe]; exact Or.inl h
  have hS : va_S A s.heap s.heap [] := va_S.rf
  have hl := lv_entry ([.ref (a 0), .int p0, .int p1]) (n := 6) (Nat.le_of_ble_eq_true rfl)
  rw [lg_entry_eq]
  generalize (lg_sl ([.ref (a 0), .int p0, .int p1]) ++ List.replicate (6 - (lg_sl ([.ref (a 0), .int p0, .int p1])).length) Slot.unset).toArray = ls at hl ⊢
  have hl : lv_has ls 6 [(0, .ref (a 0)), (1, .int p0), (2, .int p1)] := hl
  refine lv_aload_n hx hb d_M_group_0 rfl (lv_at hl 0 rfl) ?_
  refine lv_iload_n hx hb d_M_group_1 rfl (lv_at hl 1 rfl) ?_
  refine vp_callSi (W.runS (As := [.int p0]) (rest := [.ref (a 0)]) ⟨hx, hb, hml, hown, hw⟩ (c_M_isOne l p0) (va_cwS 1 hw (kb_S kb_382 kb_383 kb_6 kb_384) rfl rfl rfl (by decide +kernel) ⟨Nat.le_of_ble_eq_true rfl, Nat.le_of_ble_eq_true rfl⟩) preEq rfl rfl hl.1 rfl (lv_room (Nat.le_of_ble_eq_true rfl)) d_M_group_2 ⟨Nat.le_of_ble_eq_true rfl, Nat.le_of_ble_eq_true rfl⟩) (fun r_1 er_1 => ?_)
  rcases er_1 with ⟨rfl, hp_p0⟩ | ⟨rfl, hp_p0⟩
  · skip
    obtain ⟨g, hg, rfl⟩ := vp_in_of hp_p0 (by decide)
    have hcg : (nI g).toNatClampNeg = g := nI_clamp (by omega)
    refine lv_if_eq (tgt := 21) hx hb d_M_group_5 (by decide) (fun c_1 => absurd c_1 (by decide)) (fun c_1 => ?_)
    refine lv_iload_n hx hb d_M_group_8 rfl (lv_at hl 2 rfl) ?_
    refine lv_if_lt (tgt := 21) hx hb d_M_group_9 (by decide) (fun c_2 => ?_) (fun c_2 => ?_)
    · refine lv_iconst (v := 0) hx hb d_M_group_21 (by decide) ?_
      refine kc_i (Wd := mwv cI cJ cZ a) (va_runV (As := [.int 0]) (rest := []) ⟨hx, hb, hml, hown, hw⟩ (c_M_goes0 l hnd co lg tm rm no M _) (cwV 1 hw (kb_V kb_385 kb_387 kb_s5 kb_6 kb_388) rfl rfl rfl (by decide +kernel) ⟨Nat.le_of_ble_eq_true rfl, Nat.le_of_ble_eq_true rfl⟩) (kPV (va_recv hK hP (ci := 3) (q0 := 0) rfl rfl) hP hK) rfl rfl hl.1 rfl (lv_room (Nat.le_of_ble_eq_true rfl)) d_M_group_22 ⟨Nat.le_of_ble_eq_true rfl, Nat.le_of_ble_eq_true rfl⟩) hS hA hAL (fun r_3 u_2 H locs hw9 hP _ _ hS => ?_)
      obtain ⟨rfl, rfl⟩ := hw9
      have hP : va_P (dC, dI) vwCl (mw cI cJ cZ a 1 lg tm rm no M) _ := hP
      refine lv_if_ne (tgt := 30) hx hb d_M_group_25 (by decide) (fun c_3 => absurd c_3 (by decide)) (fun c_3 => ?_)
      refine lv_iconst (v := 0) hx hb d_M_group_28 (by decide) ?_
      exact W.iret (v := 0) hx hb hr (fun t ht hW => ⟨⟨_, (1, lg, tm, rm, no, M), rfl, Or.inr ⟨fun h => kn_no0 c_2 h.2, rfl⟩, by show va_P _ _ _ t.heap; rw [ht]; exact hP⟩, hS.F ht⟩) hS.2.2 d_M_group_29
    · refine lv_iload_n hx hb d_M_group_12 rfl (lv_at hl 2 rfl) ?_
      refine lv_iconst (v := 4) hx hb d_M_group_13 (by decide) ?_
      refine lv_icmp_gt (tgt := 21) hx hb d_M_group_14 (by decide) (fun c_4 => ?_) (fun c_4 => ?_)
      · refine lv_iconst (v := 0) hx hb d_M_group_21 (by decide) ?_
        refine kc_i (Wd := mwv cI cJ cZ a) (va_runV (As := [.int 0]) (rest := []) ⟨hx, hb, hml, hown, hw⟩ (c_M_goes0 l hnd co lg tm rm no M _) (cwV 1 hw (kb_V kb_385 kb_387 kb_s5 kb_6 kb_388) rfl rfl rfl (by decide +kernel) ⟨Nat.le_of_ble_eq_true rfl, Nat.le_of_ble_eq_true rfl⟩) (kPV (va_recv hK hP (ci := 3) (q0 := 0) rfl rfl) hP hK) rfl rfl hl.1 rfl (lv_room (Nat.le_of_ble_eq_true rfl)) d_M_group_22 ⟨Nat.le_of_ble_eq_true rfl, Nat.le_of_ble_eq_true rfl⟩) hS hA hAL (fun r_5 u_4 H locs hw9 hP _ _ hS => ?_)
        obtain ⟨rfl, rfl⟩ := hw9
        have hP : va_P (dC, dI) vwCl (mw cI cJ cZ a 1 lg tm rm no M) _ := hP
        refine lv_if_ne (tgt := 30) hx hb d_M_group_25 (by decide) (fun c_5 => absurd c_5 (by decide)) (fun c_5 => ?_)
        refine lv_iconst (v := 0) hx hb d_M_group_28 (by decide) ?_
        exact W.iret (v := 0) hx hb hr (fun t ht hW => ⟨⟨_, (1, lg, tm, rm, no, M), rfl, Or.inr ⟨fun h => kn_ge (y := 5) (by decide) (m_45.mp c_4) h.2, rfl⟩, by show va_P _ _ _ t.heap; rw [ht]; exact hP⟩, hS.F ht⟩) hS.2.2 d_M_group_29
      · refine lv_iconst (v := 1) hx hb d_M_group_17 (by decide) ?_
        refine lv_goto (tgt := 22) hx hb d_M_group_18 (by decide) ?_
        refine kc_i (Wd := mwv cI cJ cZ a) (va_runV (As := [.int 1]) (rest := []) ⟨hx, hb, hml, hown, hw⟩ (c_M_goes1 l hnd co lg tm rm no M _) (cwV 1 hw (kb_V kb_385 kb_387 kb_s5 kb_6 kb_388) rfl rfl rfl (by decide +kernel) ⟨Nat.le_of_ble_eq_true rfl, Nat.le_of_ble_eq_true rfl⟩) (kPV (va_recv hK hP (ci := 3) (q0 := 0) rfl rfl) hP hK) rfl rfl hl.1 rfl (lv_room (Nat.le_of_ble_eq_true rfl)) d_M_group_22 ⟨Nat.le_of_ble_eq_true rfl, Nat.le_of_ble_eq_true rfl⟩) hS hA hAL (fun r_7 u_6 H locs hw9 hP _ _ hS => ?_)
        obtain ⟨rfl, rfl⟩ := hw9
        have hP : va_P (dC, dI) vwCl (mw cI cJ cZ a 0 lg tm rm no M) _ := hP
        rw [← mv_at M g] at hP
        generalize hMg : M g = gv at hP
        obtain ⟨x0, x1, x2, x3, x4, x5, x6⟩ := gv
        have hMu : va_up M g (x0, x1, x2, x3, x4, x5, x6) = M := by rw [← hMg]; exact mv_at M g
        refine lv_if_ne (tgt := 30) hx hb d_M_group_25 (by decide) (fun c_6 => ?_) (fun c_6 => absurd c_6 (by decide))
        refine lv_iload_n hx hb d_M_group_30 rfl (lv_at hl 2 rfl) ?_
        refine lv_iconst (v := 2) hx hb d_M_group_31 (by decide) ?_
        refine lv_icmp_ge (tgt := 55) hx hb d_M_group_32 (by decide) (fun c_7 => ?_) (fun c_7 => ?_)
        · refine lv_iload_n hx hb d_M_group_55 rfl (lv_at hl 2 rfl) ?_
          refine lv_iconst (v := 4) hx hb d_M_group_56 (by decide) ?_
          refine lv_icmp_ne (tgt := 99) hx hb d_M_group_57 (by decide) (fun c_8 => ?_) (fun c_8 => ?_)
          · refine lv_iconst (v := 0) hx hb d_M_group_99 (by decide) ?_
            refine lv_istore_n (lv' := [(3, .int 0), (0, .ref (a 0)), (1, .int (nI g)), (2, .int p1)]) hx hb d_M_group_100 rfl hl (by decide) rfl (fun ls hl => ?_)
            refine lv_bipush (v := 7) hx hb d_M_group_101 (by decide) ?_
            refine lv_istore (lv' := [(4, .int 7), (3, .int 0), (0, .ref (a 0)), (1, .int (nI g)), (2, .int p1)]) hx hb d_M_group_103 hl (by decide) rfl (fun ls hl => ?_)
            refine lp_M_group (x0 := x0) (x1 := x1) (x2 := x2) (x3 := x3) (x4 := x4) (x5 := x5) (x6 := x6) hnd hg hx hb hml hown hw hK hP (fun ls hl => ?_) 8 0 ls (Nat.le_refl 8) rfl (lv_sub hl [0, 1, 2, 3, 4] rfl)
            refine lv_iload_n hx hb d_M_group_183 rfl (lv_at hl 0 rfl) ?_
            exact W.iret (v := (mbd (mg_is p1 x0 x3 x4) 8 0)) hx hb hr (fun t ht hW => ⟨⟨_, (0, lg, tm, rm, no, (va_up M g (x0, x1, x2, x3, x4, x5, x6))), rfl, Or.inl ⟨⟨hp_p0, kn_lt (y := 5) (by decide) c_2 (Decidable.not_not.mp (fun z => c_4 (m_45.mpr z)))⟩, by first | (simp only [mg_what, mg_lim, hcg, if_neg c_2, if_neg c_4, hMg, hMu, if_pos c_7, if_neg c_8]; done) | (simp [mg_what, mg_lim, hcg, c_2, c_4, hMg, hMu, c_7, c_8]; done)⟩, by show va_P _ _ _ t.heap; rw [ht]; exact hP⟩, hS.F ht⟩) hS.2.2 d_M_group_184
          · refine lv_aload_n hx hb d_M_group_60 rfl (lv_at hl 0 rfl) ?_
            refine va_get (D := (dC, dI)) (ci := 3) (v := .ref (a 1)) (C := R_M) (T := F_M) (N := 12) hx hb hw i_M hown hK hP 0 rfl rfl 5 (by decide) (hw _ kb_341) (fun _ h9 => h9) rfl d_M_group_61 ?_
            refine lv_iload_n hx hb d_M_group_64 rfl (lv_at hl 1 rfl) ?_
            refine ml_st hx hb hK hP hg d_M_group_65 ?_
            refine lv_iconst (v := 1) hx hb d_M_group_66 (by decide) ?_
            refine lv_icmp_ne (tgt := 97) hx hb d_M_group_67 (by decide) (fun c_9 => ?_) (fun c_9 => ?_)
            · refine lv_iconst (v := 0) hx hb d_M_group_97 (by decide) ?_
              exact W.iret (v := 0) hx hb hr (fun t ht hW => ⟨⟨_, (0, lg, tm, rm, no, (va_up M g (x0, x1, x2, x3, x4, x5, x6))), rfl, Or.inl ⟨⟨hp_p0, kn_lt (y := 5) (by decide) c_2 (Decidable.not_not.mp (fun z => c_4 (m_45.mpr z)))⟩, by first | (simp only [mg_what, mg_lim, hcg, if_neg c_2, if_neg c_4, hMg, hMu, if_pos c_7, if_pos c_8, if_neg c_9]; done) | (simp [mg_what, mg_lim, hcg, c_2, c_4, hMg, hMu, c_7, c_8, c_9]; done)⟩, by show va_P _ _ _ t.heap; rw [ht]; exact hP⟩, hS.F ht⟩) hS.2.2 d_M_group_98
            · refine lv_aload_n hx hb d_M_group_70 rfl (lv_at hl 0 rfl) ?_
              refine va_get (D := (dC, dI)) (ci := 3) (v := .ref (a 3)) (C := R_M) (T := F_M) (N := 12) hx hb hw i_M hown hK hP 0 rfl rfl 7 (by decide) (hw _ kb_343) (fun _ h9 => h9) rfl d_M_group_71 ?_
              refine lv_iload_n hx hb d_M_group_74 rfl (lv_at hl 1 rfl) ?_
              refine ml_li hx hb hK hP hg d_M_group_75 ?_
              refine lv_aload_n hx hb d_M_group_76 rfl (lv_at hl 0 rfl) ?_
              refine va_get (D := (dC, dI)) (ci := 3) (v := .int tm) (C := R_M) (T := F_M) (N := 12) hx hb hw i_M hown hK hP 0 rfl rfl 2 (by decide) (hw _ kb_338) (fun _ h9 => h9) rfl d_M_group_77 ?_
              refine lv_icmp_le (tgt := 97) hx hb d_M_group_80 (by decide) (fun c_10 => ?_) (fun c_10 => ?_)
              · refine lv_iconst (v := 0) hx hb d_M_group_97 (by decide) ?_
                exact W.iret (v := 0) hx hb hr (fun t ht hW => ⟨⟨_, (0, lg, tm, rm, no, (va_up M g (x0, x1, x2, x3, x4, x5, x6))), rfl, Or.inl ⟨⟨hp_p0, kn_lt (y := 5) (by decide) c_2 (Decidable.not_not.mp (fun z => c_4 (m_45.mpr z)))⟩, by first | (simp only [mg_what, mg_lim, hcg, if_neg c_2, if_neg c_4, hMg, hMu, if_pos c_7, if_pos c_8, if_pos c_9, if_pos c_10]; done) | (simp [mg_what, mg_lim, hcg, c_2, c_4, hMg, hMu, c_7, c_8, c_9, c_10]; done)⟩, by show va_P _ _ _ t.heap; rw [ht]; exact hP⟩, hS.F ht⟩) hS.2.2 d_M_group_98
              · refine lv_aload_n hx hb d_M_group_83 rfl (lv_at hl 0 rfl) ?_
                refine va_get (D := (dC, dI)) (ci := 3) (v := .ref (a 3)) (C := R_M) (T := F_M) (N := 12) hx hb hw i_M hown hK hP 0 rfl rfl 7 (by decide) (hw _ kb_343) (fun _ h9 => h9) rfl d_M_group_84 ?_
                refine lv_iload_n hx hb d_M_group_87 rfl (lv_at hl 1 rfl) ?_
                refine ml_li hx hb hK hP hg d_M_group_88 ?_
                refine lv_aload_n hx hb d_M_group_89 rfl (lv_at hl 0 rfl) ?_
                refine va_get (D := (dC, dI)) (ci := 3) (v := .int tm) (C := R_M) (T := F_M) (N := 12) hx hb hw i_M hown hK hP 0 rfl rfl 2 (by decide) (hw _ kb_338) (fun _ h9 => h9) rfl d_M_group_90 ?_
                refine lv_isub hx hb d_M_group_93 ?_
                refine lv_goto (tgt := 98) hx hb d_M_group_94 (by decide) ?_
                exact W.iret (v := (x2 - tm)) hx hb hr (fun t ht hW => ⟨⟨_, (0, lg, tm, rm, no, (va_up M g (x0, x1, x2, x3, x4, x5, x6))), rfl, Or.inl ⟨⟨hp_p0, kn_lt (y := 5) (by decide) c_2 (Decidable.not_not.mp (fun z => c_4 (m_45.mpr z)))⟩, by first | (simp only [mg_what, mg_lim, hcg, if_neg c_2, if_neg c_4, hMg, hMu, if_pos c_7, if_pos c_8, if_pos c_9, if_neg c_10]; done) | (simp [mg_what, mg_lim, hcg, c_2, c_4, hMg, hMu, c_7, c_8, c_9, c_10]; done)⟩, by show va_P _ _ _ t.heap; rw [ht]; exact hP⟩, hS.F ht⟩) hS.2.2 d_M_group_98
        · refine lv_iload_n hx hb d_M_group_35 rfl (lv_at hl 2 rfl) ?_
          refine lv_if_ne (tgt := 48) hx hb d_M_group_36 (by decide) (fun c_11 => ?_) (fun c_11 => ?_)
          · refine lv_aload_n hx hb d_M_group_48 rfl (lv_at hl 0 rfl) ?_
            refine va_get (D := (dC, dI)) (ci := 3) (v := .ref (a 1)) (C := R_M) (T := F_M) (N := 12) hx hb hw i_M hown hK hP 0 rfl rfl 5 (by decide) (hw _ kb_341) (fun _ h9 => h9) rfl d_M_group_49 ?_
            refine lv_iload_n hx hb d_M_group_52 rfl (lv_at hl 1 rfl) ?_
            refine ml_st hx hb hK hP hg d_M_group_53 ?_
            exact W.iret (v := x0) hx hb hr (fun t ht hW => ⟨⟨_, (0, lg, tm, rm, no, (va_up M g (x0, x1, x2, x3, x4, x5, x6))), rfl, Or.inl ⟨⟨hp_p0, kn_lt (y := 5) (by decide) c_2 (Decidable.not_not.mp (fun z => c_4 (m_45.mpr z)))⟩, by first | (simp only [mg_what, mg_lim, hcg, if_neg c_2, if_neg c_4, hMg, hMu, if_neg c_7, if_neg c_11]; done) | (simp [mg_what, mg_lim, hcg, c_2, c_4, hMg, hMu, c_7, c_11]; done)⟩, by show va_P _ _ _ t.heap; rw [ht]; exact hP⟩, hS.F ht⟩) hS.2.2 d_M_group_54
          · refine lv_aload_n hx hb d_M_group_39 rfl (lv_at hl 0 rfl) ?_
            refine va_get (D := (dC, dI)) (ci := 3) (v := .ref (a 2)) (C := R_M) (T := F_M) (N := 12) hx hb hw i_M hown hK hP 0 rfl rfl 6 (by decide) (hw _ kb_342) (fun _ h9 => h9) rfl d_M_group_40 ?_
            refine lv_iload_n hx hb d_M_group_43 rfl (lv_at hl 1 rfl) ?_
            refine ml_ge hx hb hK hP hg d_M_group_44 ?_
            refine lv_goto (tgt := 54) hx hb d_M_group_45 (by decide) ?_
            exact W.iret (v := x1) hx hb hr (fun t ht hW => ⟨⟨_, (0, lg, tm, rm, no, (va_up M g (x0, x1, x2, x3, x4, x5, x6))), rfl, Or.inl ⟨⟨hp_p0, kn_lt (y := 5) (by decide) c_2 (Decidable.not_not.mp (fun z => c_4 (m_45.mpr z)))⟩, by first | (simp only [mg_what, mg_lim, hcg, if_neg c_2, if_neg c_4, hMg, hMu, if_neg c_7, if_pos c_11]; done) | (simp [mg_what, mg_lim, hcg, c_2, c_4, hMg, hMu, c_7, c_11]; done)⟩, by show va_P _ _ _ t.heap; rw [ht]; exact hP⟩, hS.F ht⟩) hS.2.2 d_M_group_54
  · skip
    refine lv_if_eq (tgt := 21) hx hb d_M_group_5 (by decide) (fun c_12 => ?_) (fun c_12 => absurd c_12 (by decide))
    refine lv_iconst (v := 0) hx hb d_M_group_21 (by decide) ?_
    refine kc_i (Wd := mwv cI cJ cZ a) (va_runV (As := [.int 0]) (rest := []) ⟨hx, hb, hml, hown, hw⟩ (c_M_goes0 l hnd co lg tm rm no M _) (cwV 1 hw (kb_V kb_385 kb_387 kb_s5 kb_6 kb_388) rfl rfl rfl (by decide +kernel) ⟨Nat.le_of_ble_eq_true rfl, Nat.le_of_ble_eq_true rfl⟩) (kPV (va_recv hK hP (ci := 3) (q0 := 0) rfl rfl) hP hK) rfl rfl hl.1 rfl (lv_room (Nat.le_of_ble_eq_true rfl)) d_M_group_22 ⟨Nat.le_of_ble_eq_true rfl, Nat.le_of_ble_eq_true rfl⟩) hS hA hAL (fun r_9 u_8 H locs hw9 hP _ _ hS => ?_)
    obtain ⟨rfl, rfl⟩ := hw9
    have hP : va_P (dC, dI) vwCl (mw cI cJ cZ a 1 lg tm rm no M) _ := hP
    refine lv_if_ne (tgt := 30) hx hb d_M_group_25 (by decide) (fun c_13 => absurd c_13 (by decide)) (fun c_13 => ?_)
    refine lv_iconst (v := 0) hx hb d_M_group_28 (by decide) ?_
    exact W.iret (v := 0) hx hb hr (fun t ht hW => ⟨⟨_, (1, lg, tm, rm, no, M), rfl, Or.inr ⟨fun h => hp_p0 h.1, rfl⟩, by show va_P _ _ _ t.heap; rw [ht]; exact hP⟩, hS.F ht⟩) hS.2.2 d_M_group_29
set_option maxHeartbeats 4000000 in
set_option maxRecDepth 100000 in
theorem lp_M_share {p : Program} {l : Launch} {e : Env} {s : State} {m : MethodId} {args : Array Value} {below : List Frame} {meth : Method} {c : Code} {Q : State → Prop} {dC : Nat → ClassId} {dI : Nat → Nat → Nat} {cI cJ cZ : ClassId} {a : Nat → Nat} (hnd : (mad a).Nodup) {co lg tm rm no : Int32} {M : Nat → mGV} {g : Nat} (hg : g < 8) {x0 x1 x2 : Int32} {x3 x4 x5 : Nat → Int32} {x6 : Nat → Int64} {n q : Nat} (hn : n ≤ 8) (hne : ∃ z, z < 8 ∧ x3 z ≠ 0) {B : Int32} {H : Heap} {locs : List Loc} (hx : p.tables.exec = Jvm.exec) (hb : c.code = b_M_share) (hml : c.maxLocals = 5) (hown : s.vm.findClass R_M = some m.cls) (hw : ∀ w ∈ kb_B, w.before args s = true) (hK : va_K (dC, dI) vwCl (mty cI cJ cZ) s)  (hP : va_P (dC, dI) vwCl (mw cI cJ cZ a co lg tm rm no (va_up M g (x0, x1, x2, x3, x4, x5, x6))) H)
    (kk : ∀ ls : Array Slot, lv_has ls 5 [(3, .int B), (0, .ref (a 0)), (1, .int (nI g)), (2, .int (nI q))] → W p l e (headSpec w_M_share ({ frames := 1, cells := 0, slots := 0, locals := 30 })).room s m args below meth c H locs 0 0 Q (F0 m 94 ls [])) :
    ∀ (k : Nat) (b : Int32) (ls : Array Slot), k ≤ n → mbd (mg_ow x3 q) k b = B → lv_has ls 5 [(4, .int (nI k + (-1))), (3, .int b), (0, .ref (a 0)), (1, .int (nI g)), (2, .int (nI q))] → W p l e (headSpec w_M_share ({ frames := 1, cells := 0, slots := 0, locals := 30 })).room s m args below meth c H locs 0 0 Q (F0 m 62 ls []) := by
  intro k
  induction k with
  | zero =>
    intro b ls hk hB hl
    have hB : b = B := hB
    subst hB
    refine lv_iload hx hb d_M_share_62 (lv_at hl 0 rfl) ?_
    refine lv_if_lt (tgt := 94) hx hb d_M_share_64 (by decide) (fun c_1 => ?_) (fun c_1 => ?_)
    · exact kk ls (lv_sub hl [1, 2, 3, 4] rfl)
    · exact absurd (show nI 0 + (-1) < 0 by decide) c_1
  | succ k ih =>
    intro b ls hk hB hl
    rw [m_pred] at hl
    refine lv_iload hx hb d_M_share_62 (lv_at hl 0 rfl) ?_
    refine lv_if_lt (tgt := 94) hx hb d_M_share_64 (by decide) (fun c_1 => ?_) (fun c_1 => ?_)
    · exact absurd c_1 (nI_pos (by omega))
    · refine lv_iconst (v := 2) hx hb d_M_share_67 (by decide) ?_
      refine lv_iload_n hx hb d_M_share_68 rfl (lv_at hl 1 rfl) ?_
      refine lv_imul hx hb d_M_share_69 ?_
      refine lv_aload_n hx hb d_M_share_70 rfl (lv_at hl 2 rfl) ?_
      refine lv_iload_n hx hb d_M_share_71 rfl (lv_at hl 3 rfl) ?_
      refine lv_iload hx hb d_M_share_72 (lv_at hl 0 rfl) ?_
      refine vp_callSi (W.runV (As := [.int (nI g), .int (nI k)]) (rest := [.int ((2 : Int32) * b)]) ⟨hx, hb, hml, hown, hw⟩ (c_M_owner l hnd co lg tm rm no M hg x0 x1 x2 x3 x4 x5 x6 (show k < 8 by omega) hne _) (cwV 2 hw (kb_V kb_429 kb_431 kb_s13 kb_6 kb_432) rfl rfl rfl (by decide +kernel) ⟨Nat.le_of_ble_eq_true rfl, Nat.le_of_ble_eq_true rfl⟩) (kPV (va_recv hK hP (ci := 3) (q0 := 0) rfl rfl) hP hK) rfl rfl hl.1 rfl (lv_room (Nat.le_of_ble_eq_true rfl)) d_M_share_74 ⟨Nat.le_of_ble_eq_true rfl, Nat.le_of_ble_eq_true rfl⟩) (fun r_1 er_1 => ?_)
      subst er_1
      refine lv_iload_n hx hb d_M_share_77 rfl (lv_at hl 4 rfl) ?_
      refine lv_icmp_ne (tgt := 85) hx hb d_M_share_78 (by decide) (fun c_2 => ?_) (fun c_2 => ?_)
      · refine lv_iconst (v := 0) hx hb d_M_share_85 (by decide) ?_
        refine lv_iadd hx hb d_M_share_86 ?_
        refine lv_istore_n (lv' := [(3, .int (((2 : Int32) * b) + (0 : Int32))), (4, .int (nI k)), (0, .ref (a 0)), (1, .int (nI g)), (2, .int (nI q))]) hx hb d_M_share_87 rfl hl (by decide) rfl (fun ls hl => ?_)
        refine lv_iinc (v := (nI k) + (-1)) (lv' := [(4, .int ((nI k) + (-1))), (3, .int (((2 : Int32) * b) + (0 : Int32))), (0, .ref (a 0)), (1, .int (nI g)), (2, .int (nI q))]) hx hb d_M_share_88 hl (k := 1) rfl rfl (by decide) rfl (fun ls hl => ?_)
        refine lv_goto (tgt := 62) hx hb d_M_share_91 (by decide) ?_
        have hs : (mg_ow x3 q) k = 0 := by simp only [mg_ow, if_neg c_2]
        exact ih _ ls (by omega) (by rw [← hB, mbd, hs]) (lv_sub hl [0, 1, 2, 3, 4] rfl)
      · refine lv_iconst (v := 1) hx hb d_M_share_81 (by decide) ?_
        refine lv_goto (tgt := 86) hx hb d_M_share_82 (by decide) ?_
        refine lv_iadd hx hb d_M_share_86 ?_
        refine lv_istore_n (lv' := [(3, .int (((2 : Int32) * b) + (1 : Int32))), (4, .int (nI k)), (0, .ref (a 0)), (1, .int (nI g)), (2, .int (nI q))]) hx hb d_M_share_87 rfl hl (by decide) rfl (fun ls hl => ?_)
        refine lv_iinc (v := (nI k) + (-1)) (lv' := [(4, .int ((nI k) + (-1))), (3, .int (((2 : Int32) * b) + (1 : Int32))), (0, .ref (a 0)), (1, .int (nI g)), (2, .int (nI q))]) hx hb d_M_share_88 hl (k := 1) rfl rfl (by decide) rfl (fun ls hl => ?_)
        refine lv_goto (tgt := 62) hx hb d_M_share_91 (by decide) ?_
        have hs : (mg_ow x3 q) k = 1 := by simp only [mg_ow, if_pos c_2]
        exact ih _ ls (by omega) (by rw [← hB, mbd, hs]) (lv_sub hl [0, 1, 2, 3, 4] rfl)
set_option maxHeartbeats 4000000 in
set_option maxRecDepth 100000 in
theorem c_M_share (l : Launch) {dC : Nat → ClassId} {dI : Nat → Nat → Nat} {cI cJ cZ : ClassId} {a : Nat → Nat} (hnd : (mad a).Nodup) (co lg tm rm no : Int32) (M : Nat → mGV) (p0 : Int32) (p1 : Int32) (hlg : ∃ n : Nat, n ≤ 8 ∧ lg = nI n) (sz : Nat) : Met l y_M_share w_M_share ({ frames := 1, cells := 0, slots := 0, locals := 30 }) (kPre (dC, dI) vwCl (mty cI cJ cZ) [.ref (a 0), .int p0, .int p1] sz (mw cI cJ cZ a co lg tm rm no M)) (va_Qi (fun (r : Int32) (u : mDV) => ((vp_in p0 8 ∧ vp_in p1 8) ∧ (r, u) = (mg_sh p1.toNatClampNeg lg.toNatClampNeg (M p0.toNatClampNeg), (0, lg, tm, rm, no, M))) ∨ (¬ (vp_in p0 8 ∧ vp_in p1 8) ∧ u = (1, lg, tm, rm, no, M))) (fun u t => va_P (dC, dI) vwCl (mwv cI cJ cZ a u) t.heap) (kA (mad a) sz)) 0 0 (kA (mad a) sz) := by
  refine Met.ofW (cc := b_M_share) (maxL := 5) (ret := (some .int)) (by decide) rfl ?_
  intro p e s m args below meth c s₁ B hml hv
  obtain ⟨rfl, hsz, hP, hK⟩ := hv
  have hx := B.exec
  have hb := B.bytes
  have hr := B.returns
  have hts := atoms_spec (ws := w_M_share) B.pre
  have hw := fun (w : Cond) (h : w ∈ kb_B) => hts w (List.mem_cons_of_mem _ h)
  have hown : s.vm.findClass R_M = some m.cls := findClass_of_methodNamed B.named
  have hlocks := B.notSynchronized
  subst hsz
  generalize hAe : kA (mad a) s.heap.size = A
  have hA : ∀ q : Nat, s.heap.size ≤ q → A q := fun q h => by rw [← hAe]; exact Or.inr h
  have hAL : ∀ q ∈ (mad a), A q := fun q h => by rw [← hAe]; exact Or.inl h
  have hS : va_S A s.heap s.heap [] := va_S.rf
  have hl := lv_entry ([.ref (a 0), .int p0, .int p1]) (n := 5) (Nat.le_of_ble_eq_true rfl)
  rw [lg_entry_eq]
  generalize (lg_sl ([.ref (a 0), .int p0, .int p1]) ++ List.replicate (5 - (lg_sl ([.ref (a 0), .int p0, .int p1])).length) Slot.unset).toArray = ls at hl ⊢
  have hl : lv_has ls 5 [(0, .ref (a 0)), (1, .int p0), (2, .int p1)] := hl
  obtain ⟨n, hn, rfl⟩ := hlg
  have hcn : (nI n).toNatClampNeg = n := nI_clamp (by omega)
  refine lv_aload_n hx hb d_M_share_0 rfl (lv_at hl 0 rfl) ?_
  refine lv_iload_n hx hb d_M_share_1 rfl (lv_at hl 1 rfl) ?_
  refine vp_callSi (W.runS (As := [.int p0]) (rest := [.ref (a 0)]) ⟨hx, hb, hml, hown, hw⟩ (c_M_isOne l p0) (va_cwS 1 hw (kb_S kb_382 kb_383 kb_6 kb_384) rfl rfl rfl (by decide +kernel) ⟨Nat.le_of_ble_eq_true rfl, Nat.le_of_ble_eq_true rfl⟩) preEq rfl rfl hl.1 rfl (lv_room (Nat.le_of_ble_eq_true rfl)) d_M_share_2 ⟨Nat.le_of_ble_eq_true rfl, Nat.le_of_ble_eq_true rfl⟩) (fun r_1 er_1 => ?_)
  rcases er_1 with ⟨rfl, hp_p0⟩ | ⟨rfl, hp_p0⟩
  · skip
    obtain ⟨g, hg, rfl⟩ := vp_in_of hp_p0 (by decide)
    have hcg : (nI g).toNatClampNeg = g := nI_clamp (by omega)
    refine lv_if_eq (tgt := 19) hx hb d_M_share_5 (by decide) (fun c_1 => absurd c_1 (by decide)) (fun c_1 => ?_)
    refine lv_iload_n hx hb d_M_share_8 rfl (lv_at hl 2 rfl) ?_
    refine vp_callSi (W.runS (As := [.int p1]) (rest := [.ref (a 0)]) ⟨hx, hb, hml, hown, hw⟩ (c_M_isOne l p1) (va_cwS 1 hw (kb_S kb_382 kb_383 kb_6 kb_384) rfl rfl rfl (by decide +kernel) ⟨Nat.le_of_ble_eq_true rfl, Nat.le_of_ble_eq_true rfl⟩) preEq rfl rfl hl.1 rfl (lv_room (Nat.le_of_ble_eq_true rfl)) d_M_share_9 ⟨Nat.le_of_ble_eq_true rfl, Nat.le_of_ble_eq_true rfl⟩) (fun r_2 er_2 => ?_)
    rcases er_2 with ⟨rfl, hp_p1⟩ | ⟨rfl, hp_p1⟩
    · skip
      obtain ⟨q, hq, rfl⟩ := vp_in_of hp_p1 (by decide)
      have hcq : (nI q).toNatClampNeg = q := nI_clamp (by omega)
      refine lv_if_eq (tgt := 19) hx hb d_M_share_12 (by decide) (fun c_2 => absurd c_2 (by decide)) (fun c_2 => ?_)
      refine lv_iconst (v := 1) hx hb d_M_share_15 (by decide) ?_
      refine lv_goto (tgt := 20) hx hb d_M_share_16 (by decide) ?_
      refine kc_i (Wd := mwv cI cJ cZ a) (va_runV (As := [.int 1]) (rest := []) ⟨hx, hb, hml, hown, hw⟩ (c_M_goes1 l hnd co (nI n) tm rm no M _) (cwV 1 hw (kb_V kb_385 kb_387 kb_s5 kb_6 kb_388) rfl rfl rfl (by decide +kernel) ⟨Nat.le_of_ble_eq_true rfl, Nat.le_of_ble_eq_true rfl⟩) (kPV (va_recv hK hP (ci := 3) (q0 := 0) rfl rfl) hP hK) rfl rfl hl.1 rfl (lv_room (Nat.le_of_ble_eq_true rfl)) d_M_share_20 ⟨Nat.le_of_ble_eq_true rfl, Nat.le_of_ble_eq_true rfl⟩) hS hA hAL (fun r_4 u_3 H locs hw9 hP _ _ hS => ?_)
      obtain ⟨rfl, rfl⟩ := hw9
      have hP : va_P (dC, dI) vwCl (mw cI cJ cZ a 0 (nI n) tm rm no M) _ := hP
      rw [← mv_at M g] at hP
      generalize hMg : M g = gv at hP
      obtain ⟨x0, x1, x2, x3, x4, x5, x6⟩ := gv
      have hMu : va_up M g (x0, x1, x2, x3, x4, x5, x6) = M := by rw [← hMg]; exact mv_at M g
      refine lv_if_eq (tgt := 50) hx hb d_M_share_23 (by decide) (fun c_3 => absurd c_3 (by decide)) (fun c_3 => ?_)
      refine lv_aload_n hx hb d_M_share_26 rfl (lv_at hl 0 rfl) ?_
      refine va_get (D := (dC, dI)) (ci := 3) (v := .ref (a 1)) (C := R_M) (T := F_M) (N := 12) hx hb hw i_M hown hK hP 0 rfl rfl 5 (by decide) (hw _ kb_341) (fun _ h9 => h9) rfl d_M_share_27 ?_
      refine lv_iload_n hx hb d_M_share_30 rfl (lv_at hl 1 rfl) ?_
      refine ml_st hx hb hK hP hg d_M_share_31 ?_
      refine lv_iconst (v := 2) hx hb d_M_share_32 (by decide) ?_
      refine lv_icmp_ne (tgt := 50) hx hb d_M_share_33 (by decide) (fun c_4 => ?_) (fun c_4 => ?_)
      · refine lv_iconst (v := 0) hx hb d_M_share_50 (by decide) ?_
        exact W.iret (v := 0) hx hb hr (fun t ht hW => ⟨⟨_, (0, nI n, tm, rm, no, (va_up M g (x0, x1, x2, x3, x4, x5, x6))), rfl, Or.inl ⟨⟨hp_p0, hp_p1⟩, by first | (simp only [mg_sh, hcn, hcg, hcq, hMg, hMu, if_neg c_4]; done) | (simp [mg_sh, hcn, hcg, hcq, hMg, hMu, c_4]; done)⟩, by show va_P _ _ _ t.heap; rw [ht]; exact hP⟩, hS.F ht⟩) hS.2.2 d_M_share_51
      · refine lv_aload_n hx hb d_M_share_36 rfl (lv_at hl 0 rfl) ?_
        refine va_get (D := (dC, dI)) (ci := 3) (v := .ref (a 4)) (C := R_M) (T := F_M) (N := 12) hx hb hw i_M hown hK hP 0 rfl rfl 8 (by decide) (hw _ kb_344) (fun _ h9 => h9) rfl d_M_share_37 ?_
        refine lv_bipush (v := 8) hx hb d_M_share_40 (by decide) ?_
        refine lv_iload_n hx hb d_M_share_42 rfl (lv_at hl 1 rfl) ?_
        refine lv_imul hx hb d_M_share_43 ?_
        refine lv_iload_n hx hb d_M_share_44 rfl (lv_at hl 2 rfl) ?_
        refine lv_iadd hx hb d_M_share_45 ?_
        refine ml_me (i := q) hx hb hK hP hg hq d_M_share_46 ?_
        refine lv_if_ne (tgt := 52) hx hb d_M_share_47 (by decide) (fun c_5 => ?_) (fun c_5 => ?_)
        · refine lv_iconst (v := 0) hx hb d_M_share_52 (by decide) ?_
          refine lv_istore_n (lv' := [(3, .int 0), (0, .ref (a 0)), (1, .int (nI g)), (2, .int (nI q))]) hx hb d_M_share_53 rfl hl (by decide) rfl (fun ls hl => ?_)
          refine lv_aload_n hx hb d_M_share_54 rfl (lv_at hl 1 rfl) ?_
          refine va_get (D := (dC, dI)) (ci := 3) (v := .int (nI n)) (C := R_M) (T := F_M) (N := 12) hx hb hw i_M hown hK hP 0 rfl rfl 1 (by decide) (hw _ kb_337) (fun _ h9 => h9) rfl d_M_share_55 ?_
          refine lv_iconst (v := 1) hx hb d_M_share_58 (by decide) ?_
          refine lv_isub hx hb d_M_share_59 ?_
          refine lv_istore (lv' := [(4, .int ((nI n) - (1 : Int32))), (3, .int 0), (0, .ref (a 0)), (1, .int (nI g)), (2, .int (nI q))]) hx hb d_M_share_60 hl (by decide) rfl (fun ls hl => ?_)
          refine lp_M_share (x0 := x0) (x1 := x1) (x2 := x2) (x3 := x3) (x4 := x4) (x5 := x5) (x6 := x6) hnd hg hn ⟨q, hq, c_5⟩ hx hb hml hown hw hK hP (fun ls hl => ?_) n 0 ls (Nat.le_refl n) rfl (by rw [m_sub1] at hl; exact lv_sub hl [0, 1, 2, 3, 4] rfl)
          refine lv_iload_n hx hb d_M_share_94 rfl (lv_at hl 0 rfl) ?_
          exact W.iret (v := (mbd (mg_ow x3 q) n 0)) hx hb hr (fun t ht hW => ⟨⟨_, (0, nI n, tm, rm, no, (va_up M g (x0, x1, x2, x3, x4, x5, x6))), rfl, Or.inl ⟨⟨hp_p0, hp_p1⟩, by first | (simp only [mg_sh, hcn, hcg, hcq, hMg, hMu, if_pos c_4, if_neg c_5]; done) | (simp [mg_sh, hcn, hcg, hcq, hMg, hMu, c_4, c_5]; done)⟩, by show va_P _ _ _ t.heap; rw [ht]; exact hP⟩, hS.F ht⟩) hS.2.2 d_M_share_95
        · refine lv_iconst (v := 0) hx hb d_M_share_50 (by decide) ?_
          exact W.iret (v := 0) hx hb hr (fun t ht hW => ⟨⟨_, (0, nI n, tm, rm, no, (va_up M g (x0, x1, x2, x3, x4, x5, x6))), rfl, Or.inl ⟨⟨hp_p0, hp_p1⟩, by first | (simp only [mg_sh, hcn, hcg, hcq, hMg, hMu, if_pos c_4, if_pos c_5]; done) | (simp [mg_sh, hcn, hcg, hcq, hMg, hMu, c_4, c_5]; done)⟩, by show va_P _ _ _ t.heap; rw [ht]; exact hP⟩, hS.F ht⟩) hS.2.2 d_M_share_51
    · skip
      refine lv_if_eq (tgt := 19) hx hb d_M_share_12 (by decide) (fun c_6 => ?_) (fun c_6 => absurd c_6 (by decide))
      refine lv_iconst (v := 0) hx hb d_M_share_19 (by decide) ?_
      refine kc_i (Wd := mwv cI cJ cZ a) (va_runV (As := [.int 0]) (rest := []) ⟨hx, hb, hml, hown, hw⟩ (c_M_goes0 l hnd co (nI n) tm rm no M _) (cwV 1 hw (kb_V kb_385 kb_387 kb_s5 kb_6 kb_388) rfl rfl rfl (by decide +kernel) ⟨Nat.le_of_ble_eq_true rfl, Nat.le_of_ble_eq_true rfl⟩) (kPV (va_recv hK hP (ci := 3) (q0 := 0) rfl rfl) hP hK) rfl rfl hl.1 rfl (lv_room (Nat.le_of_ble_eq_true rfl)) d_M_share_20 ⟨Nat.le_of_ble_eq_true rfl, Nat.le_of_ble_eq_true rfl⟩) hS hA hAL (fun r_6 u_5 H locs hw9 hP _ _ hS => ?_)
      obtain ⟨rfl, rfl⟩ := hw9
      have hP : va_P (dC, dI) vwCl (mw cI cJ cZ a 1 (nI n) tm rm no M) _ := hP
      refine lv_if_eq (tgt := 50) hx hb d_M_share_23 (by decide) (fun c_7 => ?_) (fun c_7 => absurd c_7 (by decide))
      refine lv_iconst (v := 0) hx hb d_M_share_50 (by decide) ?_
      exact W.iret (v := 0) hx hb hr (fun t ht hW => ⟨⟨_, (1, nI n, tm, rm, no, M), rfl, Or.inr ⟨fun h => hp_p1 h.2, rfl⟩, by show va_P _ _ _ t.heap; rw [ht]; exact hP⟩, hS.F ht⟩) hS.2.2 d_M_share_51
  · skip
    refine lv_if_eq (tgt := 19) hx hb d_M_share_5 (by decide) (fun c_8 => ?_) (fun c_8 => absurd c_8 (by decide))
    refine lv_iconst (v := 0) hx hb d_M_share_19 (by decide) ?_
    refine kc_i (Wd := mwv cI cJ cZ a) (va_runV (As := [.int 0]) (rest := []) ⟨hx, hb, hml, hown, hw⟩ (c_M_goes0 l hnd co (nI n) tm rm no M _) (cwV 1 hw (kb_V kb_385 kb_387 kb_s5 kb_6 kb_388) rfl rfl rfl (by decide +kernel) ⟨Nat.le_of_ble_eq_true rfl, Nat.le_of_ble_eq_true rfl⟩) (kPV (va_recv hK hP (ci := 3) (q0 := 0) rfl rfl) hP hK) rfl rfl hl.1 rfl (lv_room (Nat.le_of_ble_eq_true rfl)) d_M_share_20 ⟨Nat.le_of_ble_eq_true rfl, Nat.le_of_ble_eq_true rfl⟩) hS hA hAL (fun r_8 u_7 H locs hw9 hP _ _ hS => ?_)
    obtain ⟨rfl, rfl⟩ := hw9
    have hP : va_P (dC, dI) vwCl (mw cI cJ cZ a 1 (nI n) tm rm no M) _ := hP
    refine lv_if_eq (tgt := 50) hx hb d_M_share_23 (by decide) (fun c_9 => ?_) (fun c_9 => absurd c_9 (by decide))
    refine lv_iconst (v := 0) hx hb d_M_share_50 (by decide) ?_
    exact W.iret (v := 0) hx hb hr (fun t ht hW => ⟨⟨_, (1, nI n, tm, rm, no, M), rfl, Or.inr ⟨fun h => hp_p0 h.1, rfl⟩, by show va_P _ _ _ t.heap; rw [ht]; exact hP⟩, hS.F ht⟩) hS.2.2 d_M_share_51
set_option maxHeartbeats 4000000 in
set_option maxRecDepth 100000 in
theorem lp_M_restart {p : Program} {l : Launch} {e : Env} {s : State} {m : MethodId} {args : Array Value} {below : List Frame} {meth : Method} {c : Code} {Q : State → Prop} {dC : Nat → ClassId} {dI : Nat → Nat → Nat} {cI cJ cZ : ClassId} {a : Nat → Nat} (hnd : (mad a).Nodup) {co lg tm rm no : Int32} {M : Nat → mGV} {A : Nat → Prop} (hx : p.tables.exec = Jvm.exec) (hb : c.code = b_M_restart) (hml : c.maxLocals = 3) (hown : s.vm.findClass R_M = some m.cls) (hw : ∀ w ∈ kb_B, w.before args s = true) (hK : va_K (dC, dI) vwCl (mty cI cJ cZ) s) (hA : ∀ q : Nat, s.heap.size ≤ q → A q) (hAL : ∀ q ∈ mad a, A q)
    (kk : ∀ (H : Heap) (locs : List Loc) (ls : Array Slot), va_P (dC, dI) vwCl (mw cI cJ cZ a co lg tm rm no (mrs M 8).2) H → va_S A s.heap H locs → lv_has ls 3 [(2, .int (nI 8)), (1, .int ((mrs M 8).1)), (0, .ref (a 0))] → W p l e (headSpec w_M_restart ({ frames := 1, cells := 0, slots := 0, locals := 30 })).room s m args below meth c H locs 0 0 Q (F0 m 34 ls [])) :
    ∀ (k i : Nat) (H : Heap) (locs : List Loc) (ls : Array Slot), i + k = 8 → va_P (dC, dI) vwCl (mw cI cJ cZ a co lg tm rm no (mrs M i).2) H → va_S A s.heap H locs → lv_has ls 3 [(2, .int (nI i)), (1, .int ((mrs M i).1)), (0, .ref (a 0))] → W p l e (headSpec w_M_restart ({ frames := 1, cells := 0, slots := 0, locals := 30 })).room s m args below meth c H locs 0 0 Q (F0 m 9 ls []) := by
  intro k
  induction k with
  | zero =>
    intro i H locs ls hi hP hS hl
    have hi8 : i = 8 := by omega
    subst hi8
    refine lv_iload_n hx hb d_M_restart_9 rfl (lv_at hl 0 rfl) ?_
    refine lv_bipush (v := 8) hx hb d_M_restart_10 (by decide) ?_
    refine lv_icmp_ge (tgt := 34) hx hb d_M_restart_12 (by decide) (fun c_1 => ?_) (fun c_1 => ?_)
    · exact kk H locs ls hP hS hl
    · exact absurd (nI_le (Nat.le_refl 8) (by decide)) c_1
  | succ k ih =>
    intro i H locs ls hi hP hS hl
    generalize hz : mrs M i = z at hP hl
    obtain ⟨s1, M1⟩ := z
    have hP : va_P (dC, dI) vwCl (mw cI cJ cZ a co lg tm rm no M1) H := hP
    have hl : lv_has ls 3 [(2, .int (nI i)), (1, .int s1), (0, .ref (a 0))] := hl
    rw [← mv_at M1 i] at hP
    generalize hMi : M1 i = gv at hP
    obtain ⟨x0, x1, x2, x3, x4, x5, x6⟩ := gv
    refine lv_iload_n hx hb d_M_restart_9 rfl (lv_at hl 0 rfl) ?_
    refine lv_bipush (v := 8) hx hb d_M_restart_10 (by decide) ?_
    refine lv_icmp_ge (tgt := 34) hx hb d_M_restart_12 (by decide) (fun c_1 => ?_) (fun c_1 => ?_)
    · exact absurd c_1 (nI_ge (a := i) (b := 8) (by omega) (by decide))
    · refine lv_iload_n hx hb d_M_restart_15 rfl (lv_at hl 1 rfl) ?_
      refine lv_aload_n hx hb d_M_restart_16 rfl (lv_at hl 2 rfl) ?_
      refine lv_iload_n hx hb d_M_restart_17 rfl (lv_at hl 0 rfl) ?_
      refine vp_callSi (W.runV (As := [.int (nI i)]) (rest := [.int s1]) ⟨hx, hb, hml, hown, hw⟩ (c_M_count l hnd co lg tm rm no M1 (show i < 8 by omega) x0 x1 x2 x3 x4 x5 x6 _) (cwV 1 hw (kb_V kb_397 kb_399 kb_s8 kb_6 kb_400) rfl rfl rfl (by decide +kernel) ⟨Nat.le_of_ble_eq_true rfl, Nat.le_of_ble_eq_true rfl⟩) (kPV (va_recv hK hP (ci := 3) (q0 := 0) rfl rfl) hP hK) rfl rfl hl.1 rfl (lv_room (Nat.le_of_ble_eq_true rfl)) d_M_restart_18 ⟨Nat.le_of_ble_eq_true rfl, Nat.le_of_ble_eq_true rfl⟩) (fun r_1 er_1 => ?_)
      subst er_1
      refine lv_iadd hx hb d_M_restart_21 ?_
      refine lv_istore_n (lv' := [(1, .int (s1 + (mg_cnt x3 8))), (2, .int (nI i)), (0, .ref (a 0))]) hx hb d_M_restart_22 rfl hl (by decide) rfl (fun ls hl => ?_)
      refine lv_aload_n hx hb d_M_restart_23 rfl (lv_at hl 2 rfl) ?_
      refine lv_iload_n hx hb d_M_restart_24 rfl (lv_at hl 1 rfl) ?_
      refine kc_v (Wd := mwv cI cJ cZ a) (va_runV (As := [.int (nI i)]) (rest := []) ⟨hx, hb, hml, hown, hw⟩ (c_M_empties l hnd co lg tm rm no M1 (show i < 8 by omega) x0 x1 x2 x3 x4 x5 x6 _) (cwV 1 hw (kb_V kb_405 kb_407 kb_s10 kb_6 kb_408) rfl rfl rfl (by decide +kernel) ⟨Nat.le_of_ble_eq_true rfl, Nat.le_of_ble_eq_true rfl⟩) (kPV (va_recv hK hP (ci := 3) (q0 := 0) rfl rfl) hP hK) rfl rfl hl.1 rfl (lv_room (Nat.le_of_ble_eq_true rfl)) d_M_restart_25 ⟨Nat.le_of_ble_eq_true rfl, Nat.le_of_ble_eq_true rfl⟩) hS hA hAL (fun u_2 H locs hw9 hP _ _ hS => ?_)
      subst hw9
      have hP : va_P (dC, dI) vwCl (mw cI cJ cZ a co lg tm rm no (va_up M1 i (0, x1, x2, mz x3 8, mz x4 8, x5, x6))) _ := hP
      refine lv_iinc (v := (nI i) + 1) (lv' := [(2, .int ((nI i) + 1)), (1, .int (s1 + (mg_cnt x3 8))), (0, .ref (a 0))]) hx hb d_M_restart_28 hl (k := 1) rfl rfl (by decide) rfl (fun ls hl => ?_)
      refine lv_goto (tgt := 9) hx hb d_M_restart_31 (by decide) ?_
      have hs : mrs M (i + 1) = (s1 + (mg_cnt x3 8), (va_up M1 i (0, x1, x2, mz x3 8, mz x4 8, x5, x6))) := by simp only [mrs, hz, hMi, mg_emp]
      refine ih (i + 1) H locs ls (by omega) ?_ hS ?_
      · rw [hs]; exact hP
      · rw [nI_succ, hs]; exact lv_sub hl [0, 1, 2] rfl
set_option maxHeartbeats 4000000 in
set_option maxRecDepth 100000 in
theorem c_M_restart (l : Launch) {dC : Nat → ClassId} {dI : Nat → Nat → Nat} {cI cJ cZ : ClassId} {a : Nat → Nat} (hnd : (mad a).Nodup) (co lg tm rm no : Int32) (M : Nat → mGV) (sz : Nat) : Met l y_M_restart w_M_restart ({ frames := 1, cells := 0, slots := 0, locals := 30 }) (kPre (dC, dI) vwCl (mty cI cJ cZ) [.ref (a 0)] sz (mw cI cJ cZ a co lg tm rm no M)) (va_Qi (fun (r : Int32) (u : mDV) => r = (mrs M 8).1 ∧ u = (0, lg, tm, rm, no, (mrs M 8).2)) (fun u t => va_P (dC, dI) vwCl (mwv cI cJ cZ a u) t.heap) (kA (mad a) sz)) 0 0 (kA (mad a) sz) := by
  refine Met.ofW (cc := b_M_restart) (maxL := 3) (ret := (some .int)) (by decide) rfl ?_
  intro p e s m args below meth c s₁ B hml hv
  obtain ⟨rfl, hsz, hP, hK⟩ := hv
  have hx := B.exec
  have hb := B.bytes
  have hr := B.returns
  have hts := atoms_spec (ws := w_M_restart) B.pre
  have hw := fun (w : Cond) (h : w ∈ kb_B) => hts w (List.mem_cons_of_mem _ h)
  have hown : s.vm.findClass R_M = some m.cls := findClass_of_methodNamed B.named
  have hlocks := B.notSynchronized
  subst hsz
  generalize hAe : kA (mad a) s.heap.size = A
  have hA : ∀ q : Nat, s.heap.size ≤ q → A q := fun q h => by rw [← hAe]; exact Or.inr h
  have hAL : ∀ q ∈ (mad a), A q := fun q h => by rw [← hAe]; exact Or.inl h
  have hS : va_S A s.heap s.heap [] := va_S.rf
  have hl := lv_entry ([.ref (a 0)]) (n := 3) (Nat.le_of_ble_eq_true rfl)
  rw [lg_entry_eq]
  generalize (lg_sl ([.ref (a 0)]) ++ List.replicate (3 - (lg_sl ([.ref (a 0)])).length) Slot.unset).toArray = ls at hl ⊢
  have hl : lv_has ls 3 [(0, .ref (a 0))] := hl
  refine lv_aload_n hx hb d_M_restart_0 rfl (lv_at hl 0 rfl) ?_
  refine lv_iconst (v := 0) hx hb d_M_restart_1 (by decide) ?_
  refine va_put (D := (dC, dI)) (ci := 3) (v := .int 0) (ty := .int) (C := R_M) (T := F_M) (N := 12) hx hb hw i_M t_M t_M_ok n_M hown hK hP (mw_D hnd hAL) hS 0 rfl rfl 0 (by decide) (hw _ kb_336) (fun _ h9 => h9) rfl (by decide +kernel) rfl rfl (Nat.le_of_ble_eq_true rfl) d_M_restart_2 (fun H locs hP _ hS => ?_)
  have hP : va_P (dC, dI) vwCl (mw cI cJ cZ a 0 lg tm rm no M) _ := hP
  refine lv_iconst (v := 0) hx hb d_M_restart_5 (by decide) ?_
  refine lv_istore_n (lv' := [(1, .int 0), (0, .ref (a 0))]) hx hb d_M_restart_6 rfl hl (by decide) rfl (fun ls hl => ?_)
  refine lv_iconst (v := 0) hx hb d_M_restart_7 (by decide) ?_
  refine lv_istore_n (lv' := [(2, .int 0), (1, .int 0), (0, .ref (a 0))]) hx hb d_M_restart_8 rfl hl (by decide) rfl (fun ls hl => ?_)
  refine lp_M_restart (M := M) hnd hx hb hml hown hw hK hA hAL (fun H locs ls hP hS hl => ?_) 8 0 _ _ ls rfl hP hS (lv_sub hl [0, 1, 2] rfl)
  refine lv_iload_n hx hb d_M_restart_34 rfl (lv_at hl 1 rfl) ?_
  exact W.iret (v := ((mrs M 8).1)) hx hb hr (fun t ht hW => ⟨⟨_, (0, lg, tm, rm, no, (mrs M 8).2), rfl, ⟨by first | (simp only []; done) | (simp []; done), by first | (simp only []; done) | (simp []; done)⟩, by show va_P _ _ _ t.heap; rw [ht]; exact hP⟩, hS.F ht⟩) hS.2.2 d_M_restart_35
set_option maxHeartbeats 4000000 in
set_option maxRecDepth 100000 in
theorem lp_M_tk1 {p : Program} {l : Launch} {e : Env} {s : State} {m : MethodId} {args : Array Value} {below : List Frame} {meth : Method} {c : Code} {Q : State → Prop} {dC : Nat → ClassId} {dI : Nat → Nat → Nat} {cI cJ cZ : ClassId} {a : Nat → Nat} (hnd : (mad a).Nodup) {co lg tm rm no : Int32} {M : Nat → mGV} {k0 n : Nat} {A : Nat → Prop} (hx : p.tables.exec = Jvm.exec) (hb : c.code = b_M_ticks) (hml : c.maxLocals = 4) (hown : s.vm.findClass R_M = some m.cls) (hw : ∀ w ∈ kb_B, w.before args s = true) (hK : va_K (dC, dI) vwCl (mty cI cJ cZ) s) (hA : ∀ q : Nat, s.heap.size ≤ q → A q) (hAL : ∀ q ∈ mad a, A q)
    (kk : ∀ (H : Heap) (locs : List Loc) (ls : Array Slot), va_P (dC, dI) vwCl (mw cI cJ cZ a co lg tm (mdt tm rm no M 8).1 (mdt tm rm no M 8).2.1 (mdt tm rm no M 8).2.2) H → va_S A s.heap H locs → lv_has ls 4 [(3, .int (nI 8)), (2, .int (nI k0)), (0, .ref (a 0)), (1, .int (nI n))] → W p l e (headSpec w_M_ticks ({ frames := 3, cells := 0, slots := 0, locals := 100 })).room s m args below meth c H locs 0 0 Q (F0 m 73 ls [])) :
    ∀ (k i : Nat) (H : Heap) (locs : List Loc) (ls : Array Slot), i + k = 8 → va_P (dC, dI) vwCl (mw cI cJ cZ a co lg tm (mdt tm rm no M i).1 (mdt tm rm no M i).2.1 (mdt tm rm no M i).2.2) H → va_S A s.heap H locs → lv_has ls 4 [(3, .int (nI i)), (2, .int (nI k0)), (0, .ref (a 0)), (1, .int (nI n))] → W p l e (headSpec w_M_ticks ({ frames := 3, cells := 0, slots := 0, locals := 100 })).room s m args below meth c H locs 0 0 Q (F0 m 56 ls []) := by
  intro k
  induction k with
  | zero =>
    intro i H locs ls hi hP hS hl
    have hi8 : i = 8 := by omega
    subst hi8
    refine lv_iload_n hx hb d_M_ticks_56 rfl (lv_at hl 0 rfl) ?_
    refine lv_bipush (v := 8) hx hb d_M_ticks_57 (by decide) ?_
    refine lv_icmp_ge (tgt := 73) hx hb d_M_ticks_59 (by decide) (fun c_1 => ?_) (fun c_1 => ?_)
    · exact kk H locs ls hP hS hl
    · exact absurd (nI_le (Nat.le_refl 8) (by decide)) c_1
  | succ k ih =>
    intro i H locs ls hi hP hS hl
    generalize hz : mdt tm rm no M i = z at hP
    obtain ⟨rm1, no1, M1⟩ := z
    have hP : va_P (dC, dI) vwCl (mw cI cJ cZ a co lg tm rm1 no1 M1) H := hP
    rw [← mv_at M1 i] at hP
    generalize hMi : M1 i = gv at hP
    obtain ⟨x0, x1, x2, x3, x4, x5, x6⟩ := gv
    refine lv_iload_n hx hb d_M_ticks_56 rfl (lv_at hl 0 rfl) ?_
    refine lv_bipush (v := 8) hx hb d_M_ticks_57 (by decide) ?_
    refine lv_icmp_ge (tgt := 73) hx hb d_M_ticks_59 (by decide) (fun c_1 => ?_) (fun c_1 => ?_)
    · exact absurd c_1 (nI_ge (a := i) (b := 8) (by omega) (by decide))
    · refine lv_aload_n hx hb d_M_ticks_62 rfl (lv_at hl 2 rfl) ?_
      refine lv_iload_n hx hb d_M_ticks_63 rfl (lv_at hl 0 rfl) ?_
      refine kc_v (Wd := mwv cI cJ cZ a) (va_runV (As := [.int (nI i)]) (rest := []) ⟨hx, hb, hml, hown, hw⟩ (c_M_tick l hnd co lg tm rm1 no1 M1 (show i < 8 by omega) x0 x1 x2 x3 x4 x5 x6 _) (cwV 1 hw (kb_V kb_459 kb_461 kb_s14 kb_6 kb_462) rfl rfl rfl (by decide +kernel) ⟨Nat.le_of_ble_eq_true rfl, Nat.le_of_ble_eq_true rfl⟩) (kPV (va_recv hK hP (ci := 3) (q0 := 0) rfl rfl) hP hK) rfl rfl hl.1 rfl (lv_room (Nat.le_of_ble_eq_true rfl)) d_M_ticks_64 ⟨Nat.le_of_ble_eq_true rfl, Nat.le_of_ble_eq_true rfl⟩) hS hA hAL (fun u_1 H locs hw9 hP _ _ hS => ?_)
      subst hw9
      have hP : va_P (dC, dI) vwCl (mw cI cJ cZ a co lg tm (mg_done tm rm1 no1 (mg_tk tm (x0, x1, x2, x3, x4, x5, x6))).2.1 (mg_done tm rm1 no1 (mg_tk tm (x0, x1, x2, x3, x4, x5, x6))).2.2 (va_up M1 i (mg_done tm rm1 no1 (mg_tk tm (x0, x1, x2, x3, x4, x5, x6))).1)) _ := hP
      generalize hq_3 : mg_done tm rm1 no1 (mg_tk tm (x0, x1, x2, x3, x4, x5, x6)) = z_3 at hP
      obtain ⟨⟨y3_0, y3_1, y3_2, y3_3, y3_4, y3_5, y3_6⟩, rm_3, no_3⟩ := z_3
      have hP : va_P (dC, dI) vwCl (mw cI cJ cZ a co lg tm rm_3 no_3 (va_up M1 i (y3_0, y3_1, y3_2, y3_3, y3_4, y3_5, y3_6))) _ := hP
      refine lv_iinc (v := (nI i) + 1) (lv' := [(3, .int ((nI i) + 1)), (2, .int (nI k0)), (0, .ref (a 0)), (1, .int (nI n))]) hx hb d_M_ticks_67 hl (k := 0) rfl rfl (by decide) rfl (fun ls hl => ?_)
      refine lv_goto (tgt := 56) hx hb d_M_ticks_70 (by decide) ?_
      have hs : mdt tm rm no M (i + 1) = (rm_3, no_3, (va_up M1 i (y3_0, y3_1, y3_2, y3_3, y3_4, y3_5, y3_6))) := by simp only [mdt, hz, hMi, hq_3]
      refine ih (i + 1) H locs ls (by omega) ?_ hS ?_
      · rw [hs]; exact hP
      · rw [nI_succ]; exact lv_sub hl [0, 1, 2, 3] rfl
set_option maxHeartbeats 4000000 in
set_option maxRecDepth 100000 in
theorem lp_M_tk2 {p : Program} {l : Launch} {e : Env} {s : State} {m : MethodId} {args : Array Value} {below : List Frame} {meth : Method} {c : Code} {Q : State → Prop} {dC : Nat → ClassId} {dI : Nat → Nat → Nat} {cI cJ cZ : ClassId} {a : Nat → Nat} (hnd : (mad a).Nodup) {v : mDV} {n : Nat} (hn : n ≤ 200) {A : Nat → Prop} (hx : p.tables.exec = Jvm.exec) (hb : c.code = b_M_ticks) (hml : c.maxLocals = 4) (hown : s.vm.findClass R_M = some m.cls) (hw : ∀ w ∈ kb_B, w.before args s = true) (hK : va_K (dC, dI) vwCl (mty cI cJ cZ) s) (hA : ∀ q : Nat, s.heap.size ≤ q → A q) (hAL : ∀ q ∈ mad a, A q)
    (kk : ∀ (H : Heap) (locs : List Loc) (ls : Array Slot), va_P (dC, dI) vwCl (mwv cI cJ cZ a (md_ticks v n)) H → va_S A s.heap H locs → lv_has ls 4 [(2, .int (nI n)), (0, .ref (a 0)), (1, .int (nI n))] → W p l e (headSpec w_M_ticks ({ frames := 3, cells := 0, slots := 0, locals := 100 })).room s m args below meth c H locs 0 0 Q (F0 m 79 ls [])) :
    ∀ (k i : Nat) (H : Heap) (locs : List Loc) (ls : Array Slot), i + k = n → va_P (dC, dI) vwCl (mwv cI cJ cZ a (md_ticks v i)) H → va_S A s.heap H locs → lv_has ls 4 [(2, .int (nI i)), (0, .ref (a 0)), (1, .int (nI n))] → W p l e (headSpec w_M_ticks ({ frames := 3, cells := 0, slots := 0, locals := 100 })).room s m args below meth c H locs 0 0 Q (F0 m 39 ls []) := by
  intro k
  induction k with
  | zero =>
    intro i H locs ls hi hP hS hl
    have hin : i = n := by omega
    subst hin
    refine lv_iload_n hx hb d_M_ticks_39 rfl (lv_at hl 0 rfl) ?_
    refine lv_iload_n hx hb d_M_ticks_40 rfl (lv_at hl 2 rfl) ?_
    refine lv_icmp_ge (tgt := 79) hx hb d_M_ticks_41 (by decide) (fun c_1 => ?_) (fun c_1 => ?_)
    · exact kk H locs ls hP hS hl
    · exact absurd (nI_le (Nat.le_refl i) (by omega)) c_1
  | succ k ih =>
    intro i H locs ls hi hP hS hl
    generalize hz : md_ticks v i = z at hP
    obtain ⟨co, lg, tm, rm, no, M⟩ := z
    have hP : va_P (dC, dI) vwCl (mw cI cJ cZ a co lg tm rm no M) H := hP
    refine lv_iload_n hx hb d_M_ticks_39 rfl (lv_at hl 0 rfl) ?_
    refine lv_iload_n hx hb d_M_ticks_40 rfl (lv_at hl 2 rfl) ?_
    refine lv_icmp_ge (tgt := 79) hx hb d_M_ticks_41 (by decide) (fun c_1 => ?_) (fun c_1 => ?_)
    · exact absurd c_1 (nI_ge (a := i) (b := n) (by omega) (by omega))
    · refine lv_aload_n hx hb d_M_ticks_44 rfl (lv_at hl 1 rfl) ?_
      refine lv_dup hx hb d_M_ticks_45 rfl ?_
      refine va_get (D := (dC, dI)) (ci := 3) (v := .int tm) (C := R_M) (T := F_M) (N := 12) hx hb hw i_M hown hK hP 0 rfl rfl 2 (by decide) (hw _ kb_338) (fun _ h9 => h9) rfl d_M_ticks_46 ?_
      refine lv_iconst (v := 1) hx hb d_M_ticks_49 (by decide) ?_
      refine lv_iadd hx hb d_M_ticks_50 ?_
      refine va_put (D := (dC, dI)) (ci := 3) (v := .int (tm + (1 : Int32))) (ty := .int) (C := R_M) (T := F_M) (N := 12) hx hb hw i_M t_M t_M_ok n_M hown hK hP (mw_D hnd hAL) hS 0 rfl rfl 2 (by decide) (hw _ kb_338) (fun _ h9 => h9) rfl (by decide +kernel) rfl rfl (Nat.le_of_ble_eq_true rfl) d_M_ticks_51 (fun H locs hP _ hS => ?_)
      have hP : va_P (dC, dI) vwCl (mw cI cJ cZ a co lg (tm + (1 : Int32)) rm no M) _ := hP
      refine lv_iconst (v := 0) hx hb d_M_ticks_54 (by decide) ?_
      refine lv_istore_n (lv' := [(3, .int 0), (2, .int (nI i)), (0, .ref (a 0)), (1, .int (nI n))]) hx hb d_M_ticks_55 rfl hl (by decide) rfl (fun ls hl => ?_)
      refine lp_M_tk1 (k0 := i) (n := n) hnd hx hb hml hown hw hK hA hAL (fun H locs ls hP hS hl => ?_) 8 0 _ _ ls rfl hP hS (lv_sub hl [0, 1, 2, 3] rfl)
      refine lv_iinc (v := (nI i) + 1) (lv' := [(2, .int ((nI i) + 1)), (3, .int (nI 8)), (0, .ref (a 0)), (1, .int (nI n))]) hx hb d_M_ticks_73 hl (k := 1) rfl rfl (by decide) rfl (fun ls hl => ?_)
      refine lv_goto (tgt := 39) hx hb d_M_ticks_76 (by decide) ?_
      refine ih (i + 1) H locs ls (by omega) ?_ hS ?_
      · show va_P _ _ (mwv cI cJ cZ a (md_tick (md_ticks v i))) H; rw [hz]; exact hP
      · rw [nI_succ]; exact lv_sub hl [0, 2, 3] rfl
set_option maxHeartbeats 4000000 in
set_option maxRecDepth 100000 in
theorem c_M_ticks (l : Launch) {dC : Nat → ClassId} {dI : Nat → Nat → Nat} {cI cJ cZ : ClassId} {a : Nat → Nat} (hnd : (mad a).Nodup) (co lg tm rm no : Int32) (M : Nat → mGV) (p0 : Int32) (sz : Nat) : Met l y_M_ticks w_M_ticks ({ frames := 3, cells := 0, slots := 0, locals := 100 }) (kPre (dC, dI) vwCl (mty cI cJ cZ) [.ref (a 0), .int p0] sz (mw cI cJ cZ a co lg tm rm no M)) (va_Qi (fun (r : Int32) (u : mDV) => ((¬ p0 < 1 ∧ p0 ≤ 200 ∧ tm + p0 ≤ 1000000) ∧ (r, u) = ((md_ticks (0, lg, tm, rm, no, M) p0.toNatClampNeg).2.2.1, md_ticks (0, lg, tm, rm, no, M) p0.toNatClampNeg)) ∨ (¬ (¬ p0 < 1 ∧ p0 ≤ 200 ∧ tm + p0 ≤ 1000000) ∧ u = (1, lg, tm, rm, no, M))) (fun u t => va_P (dC, dI) vwCl (mwv cI cJ cZ a u) t.heap) (kA (mad a) sz)) 0 0 (kA (mad a) sz) := by
  refine Met.ofW (cc := b_M_ticks) (maxL := 4) (ret := (some .int)) (by decide) rfl ?_
  intro p e s m args below meth c s₁ B hml hv
  obtain ⟨rfl, hsz, hP, hK⟩ := hv
  have hx := B.exec
  have hb := B.bytes
  have hr := B.returns
  have hts := atoms_spec (ws := w_M_ticks) B.pre
  have hw := fun (w : Cond) (h : w ∈ kb_B) => hts w (List.mem_cons_of_mem _ h)
  have hown : s.vm.findClass R_M = some m.cls := findClass_of_methodNamed B.named
  have hlocks := B.notSynchronized
  subst hsz
  generalize hAe : kA (mad a) s.heap.size = A
  have hA : ∀ q : Nat, s.heap.size ≤ q → A q := fun q h => by rw [← hAe]; exact Or.inr h
  have hAL : ∀ q ∈ (mad a), A q := fun q h => by rw [← hAe]; exact Or.inl h
  have hS : va_S A s.heap s.heap [] := va_S.rf
  have hl := lv_entry ([.ref (a 0), .int p0]) (n := 4) (Nat.le_of_ble_eq_true rfl)
  rw [lg_entry_eq]
  generalize (lg_sl ([.ref (a 0), .int p0]) ++ List.replicate (4 - (lg_sl ([.ref (a 0), .int p0])).length) Slot.unset).toArray = ls at hl ⊢
  have hl : lv_has ls 4 [(0, .ref (a 0)), (1, .int p0)] := hl
  refine lv_aload_n hx hb d_M_ticks_0 rfl (lv_at hl 0 rfl) ?_
  refine lv_iload_n hx hb d_M_ticks_1 rfl (lv_at hl 1 rfl) ?_
  refine lv_iconst (v := 1) hx hb d_M_ticks_2 (by decide) ?_
  refine lv_icmp_lt (tgt := 28) hx hb d_M_ticks_3 (by decide) (fun c_1 => ?_) (fun c_1 => ?_)
  · refine lv_iconst (v := 0) hx hb d_M_ticks_28 (by decide) ?_
    refine kc_i (Wd := mwv cI cJ cZ a) (va_runV (As := [.int 0]) (rest := []) ⟨hx, hb, hml, hown, hw⟩ (c_M_goes0 l hnd co lg tm rm no M _) (cwV 1 hw (kb_V kb_385 kb_387 kb_s5 kb_6 kb_388) rfl rfl rfl (by decide +kernel) ⟨Nat.le_of_ble_eq_true rfl, Nat.le_of_ble_eq_true rfl⟩) (kPV (va_recv hK hP (ci := 3) (q0 := 0) rfl rfl) hP hK) rfl rfl hl.1 rfl (lv_room (Nat.le_of_ble_eq_true rfl)) d_M_ticks_29 ⟨Nat.le_of_ble_eq_true rfl, Nat.le_of_ble_eq_true rfl⟩) hS hA hAL (fun r_2 u_1 H locs hw9 hP _ _ hS => ?_)
    obtain ⟨rfl, rfl⟩ := hw9
    have hP : va_P (dC, dI) vwCl (mw cI cJ cZ a 1 lg tm rm no M) _ := hP
    refine lv_if_ne (tgt := 37) hx hb d_M_ticks_32 (by decide) (fun c_2 => absurd c_2 (by decide)) (fun c_2 => ?_)
    refine lv_iconst (v := 0) hx hb d_M_ticks_35 (by decide) ?_
    exact W.iret (v := 0) hx hb hr (fun t ht hW => ⟨⟨_, (1, lg, tm, rm, no, M), rfl, Or.inr ⟨fun h => h.1 c_1, rfl⟩, by show va_P _ _ _ t.heap; rw [ht]; exact hP⟩, hS.F ht⟩) hS.2.2 d_M_ticks_36
  · refine lv_iload_n hx hb d_M_ticks_6 rfl (lv_at hl 1 rfl) ?_
    refine lv_sipush (v := 200) hx hb d_M_ticks_7 (by decide) ?_
    refine lv_icmp_gt (tgt := 28) hx hb d_M_ticks_10 (by decide) (fun c_3 => ?_) (fun c_3 => ?_)
    · refine lv_iconst (v := 0) hx hb d_M_ticks_28 (by decide) ?_
      refine kc_i (Wd := mwv cI cJ cZ a) (va_runV (As := [.int 0]) (rest := []) ⟨hx, hb, hml, hown, hw⟩ (c_M_goes0 l hnd co lg tm rm no M _) (cwV 1 hw (kb_V kb_385 kb_387 kb_s5 kb_6 kb_388) rfl rfl rfl (by decide +kernel) ⟨Nat.le_of_ble_eq_true rfl, Nat.le_of_ble_eq_true rfl⟩) (kPV (va_recv hK hP (ci := 3) (q0 := 0) rfl rfl) hP hK) rfl rfl hl.1 rfl (lv_room (Nat.le_of_ble_eq_true rfl)) d_M_ticks_29 ⟨Nat.le_of_ble_eq_true rfl, Nat.le_of_ble_eq_true rfl⟩) hS hA hAL (fun r_4 u_3 H locs hw9 hP _ _ hS => ?_)
      obtain ⟨rfl, rfl⟩ := hw9
      have hP : va_P (dC, dI) vwCl (mw cI cJ cZ a 1 lg tm rm no M) _ := hP
      refine lv_if_ne (tgt := 37) hx hb d_M_ticks_32 (by decide) (fun c_4 => absurd c_4 (by decide)) (fun c_4 => ?_)
      refine lv_iconst (v := 0) hx hb d_M_ticks_35 (by decide) ?_
      exact W.iret (v := 0) hx hb hr (fun t ht hW => ⟨⟨_, (1, lg, tm, rm, no, M), rfl, Or.inr ⟨fun h => absurd h.2.1 (Int32.not_le.mpr c_3), rfl⟩, by show va_P _ _ _ t.heap; rw [ht]; exact hP⟩, hS.F ht⟩) hS.2.2 d_M_ticks_36
    · refine lv_aload_n hx hb d_M_ticks_13 rfl (lv_at hl 0 rfl) ?_
      refine va_get (D := (dC, dI)) (ci := 3) (v := .int tm) (C := R_M) (T := F_M) (N := 12) hx hb hw i_M hown hK hP 0 rfl rfl 2 (by decide) (hw _ kb_338) (fun _ h9 => h9) rfl d_M_ticks_14 ?_
      refine lv_iload_n hx hb d_M_ticks_17 rfl (lv_at hl 1 rfl) ?_
      refine lv_iadd hx hb d_M_ticks_18 ?_
      refine lv_ldc (v := 1000000) hx hb hown (hw _ kb_458) d_M_ticks_19 ?_
      refine lv_icmp_gt (tgt := 28) hx hb d_M_ticks_21 (by decide) (fun c_5 => ?_) (fun c_5 => ?_)
      · refine lv_iconst (v := 0) hx hb d_M_ticks_28 (by decide) ?_
        refine kc_i (Wd := mwv cI cJ cZ a) (va_runV (As := [.int 0]) (rest := []) ⟨hx, hb, hml, hown, hw⟩ (c_M_goes0 l hnd co lg tm rm no M _) (cwV 1 hw (kb_V kb_385 kb_387 kb_s5 kb_6 kb_388) rfl rfl rfl (by decide +kernel) ⟨Nat.le_of_ble_eq_true rfl, Nat.le_of_ble_eq_true rfl⟩) (kPV (va_recv hK hP (ci := 3) (q0 := 0) rfl rfl) hP hK) rfl rfl hl.1 rfl (lv_room (Nat.le_of_ble_eq_true rfl)) d_M_ticks_29 ⟨Nat.le_of_ble_eq_true rfl, Nat.le_of_ble_eq_true rfl⟩) hS hA hAL (fun r_6 u_5 H locs hw9 hP _ _ hS => ?_)
        obtain ⟨rfl, rfl⟩ := hw9
        have hP : va_P (dC, dI) vwCl (mw cI cJ cZ a 1 lg tm rm no M) _ := hP
        refine lv_if_ne (tgt := 37) hx hb d_M_ticks_32 (by decide) (fun c_6 => absurd c_6 (by decide)) (fun c_6 => ?_)
        refine lv_iconst (v := 0) hx hb d_M_ticks_35 (by decide) ?_
        exact W.iret (v := 0) hx hb hr (fun t ht hW => ⟨⟨_, (1, lg, tm, rm, no, M), rfl, Or.inr ⟨fun h => absurd h.2.2 (Int32.not_le.mpr c_5), rfl⟩, by show va_P _ _ _ t.heap; rw [ht]; exact hP⟩, hS.F ht⟩) hS.2.2 d_M_ticks_36
      · refine lv_iconst (v := 1) hx hb d_M_ticks_24 (by decide) ?_
        refine lv_goto (tgt := 29) hx hb d_M_ticks_25 (by decide) ?_
        refine kc_i (Wd := mwv cI cJ cZ a) (va_runV (As := [.int 1]) (rest := []) ⟨hx, hb, hml, hown, hw⟩ (c_M_goes1 l hnd co lg tm rm no M _) (cwV 1 hw (kb_V kb_385 kb_387 kb_s5 kb_6 kb_388) rfl rfl rfl (by decide +kernel) ⟨Nat.le_of_ble_eq_true rfl, Nat.le_of_ble_eq_true rfl⟩) (kPV (va_recv hK hP (ci := 3) (q0 := 0) rfl rfl) hP hK) rfl rfl hl.1 rfl (lv_room (Nat.le_of_ble_eq_true rfl)) d_M_ticks_29 ⟨Nat.le_of_ble_eq_true rfl, Nat.le_of_ble_eq_true rfl⟩) hS hA hAL (fun r_8 u_7 H locs hw9 hP _ _ hS => ?_)
        obtain ⟨rfl, rfl⟩ := hw9
        have hP : va_P (dC, dI) vwCl (mw cI cJ cZ a 0 lg tm rm no M) _ := hP
        refine lv_if_ne (tgt := 37) hx hb d_M_ticks_32 (by decide) (fun c_7 => ?_) (fun c_7 => absurd c_7 (by decide))
        refine lv_iconst (v := 0) hx hb d_M_ticks_37 (by decide) ?_
        refine lv_istore_n (lv' := [(2, .int 0), (0, .ref (a 0)), (1, .int p0)]) hx hb d_M_ticks_38 rfl hl (by decide) rfl (fun ls hl => ?_)
        obtain ⟨n, hn, rfl⟩ := nI_of2 (M := 200) (n := 200) rfl (k_n1 c_1) (Int32.not_lt.mp c_3)
        refine lp_M_tk2 (v := (0, lg, tm, rm, no, M)) hnd hn hx hb hml hown hw hK hA hAL (fun H locs ls hP hS hl => ?_) n 0 _ _ ls (Nat.zero_add n) hP hS (lv_sub hl [0, 1, 2] rfl)
        have hnn : (nI n).toNatClampNeg = n := nI_clamp (by omega)
        generalize hz : md_ticks (0, lg, tm, rm, no, M) n = z at hP
        obtain ⟨co1, lg1, tm1, rm1, no1, M1⟩ := z
        have hP : va_P (dC, dI) vwCl (mw cI cJ cZ a co1 lg1 tm1 rm1 no1 M1) _ := hP
        refine lv_aload_n hx hb d_M_ticks_79 rfl (lv_at hl 1 rfl) ?_
        refine va_get (D := (dC, dI)) (ci := 3) (v := .int tm1) (C := R_M) (T := F_M) (N := 12) hx hb hw i_M hown hK hP 0 rfl rfl 2 (by decide) (hw _ kb_338) (fun _ h9 => h9) rfl d_M_ticks_80 ?_
        exact W.iret (v := tm1) hx hb hr (fun t ht hW => ⟨⟨_, (co1, lg1, tm1, rm1, no1, M1), rfl, Or.inl ⟨⟨c_1, Int32.not_lt.mp c_3, Int32.not_lt.mp c_5⟩, by first | (simp only [hnn, hz]; done) | (simp [hnn, hz]; done)⟩, by show va_P _ _ _ t.heap; rw [ht]; exact hP⟩, hS.F ht⟩) hS.2.2 d_M_ticks_83
end
section
/-! the reference while it is made -/
def mM0 : mGV := (0, 0, 0, fun _ => 0, fun _ => 0, fun _ => 0, fun _ => 0)
def mo1 : Nat → Nat → Int64
  | 0 => fun _ => 0
  | j + 1 => vp_updL (mo1 j) j (-1)
def mMi : Nat → Nat → mGV
  | 0 => fun _ => mM0
  | g + 1 => va_up (mMi g) g (0, 0, 0, fun _ => 0, fun _ => 0, fun _ => 0, mo1 8)
theorem mMi_ge (g q : Nat) (h : g ≤ q) : mMi g q = mM0 := by
  induction g with
  | zero => rfl
  | succ g ih =>
    show va_up (mMi g) g _ q = mM0
    rw [va_up_ne _ _ (by omega)]
    exact ih (by omega)
def mAd (L : List Nat) : Nat → Nat := fun n => L.getD n 0
theorem m_lg (x : Int32) : (if 1 ≤ x then (if x ≤ 8 then x else 8) else 1) = k_lg x := by
  unfold k_lg
  by_cases h1 : 1 ≤ x
  · have h2 : ¬ x < 1 := Int32.not_lt.mpr h1
    by_cases h3 : x ≤ 8
    · have h4 : ¬ 8 < x := Int32.not_lt.mpr h3
      simp [h1, h2, h3, h4]
    · have h4 : 8 < x := Int32.not_le.mp h3
      simp [h1, h2, h3, h4]
  · have h2 : x < 1 := Int32.not_le.mp h1
    simp [h1, h2]
set_option maxHeartbeats 4000000 in
set_option maxRecDepth 100000 in
theorem lp_M_in1 {p : Program} {l : Launch} {e : Env} {s : State} {m : MethodId} {args : Array Value} {below : List Frame} {meth : Method} {c : Code} {Q : State → Prop} {dC : Nat → ClassId} {dI : Nat → Nat → Nat} {cI cJ cZ : ClassId} {a : Nat → Nat} (hnd : (mad a).Nodup) {p0 lg : Int32} {M : Nat → mGV} {g : Nat} (hg : g < 8) {A : Nat → Prop} (hx : p.tables.exec = Jvm.exec) (hb : c.code = b_M_init) (hml : c.maxLocals = 4) (hown : s.vm.findClass R_M = some m.cls) (hw : ∀ w ∈ kb_B, w.before args s = true) (hK : va_K (dC, dI) vwCl (mty cI cJ cZ) s) (hA : ∀ q : Nat, s.heap.size ≤ q → A q) (hAL : ∀ q ∈ mad a, A q)
    (kk : ∀ (H : Heap) (locs : List Loc) (ls : Array Slot), va_P (dC, dI) vwCl (mw cI cJ cZ a 0 lg 0 1000 0 (va_up M g (0, 0, 0, (fun _ => 0), (fun _ => 0), (fun _ => 0), mo1 8))) H → va_S A s.heap H locs → lv_has ls 4 [(3, .int (nI 8)), (2, .int (nI g)), (0, .ref (a 0)), (1, .int p0)] → W p l e (headSpec w_M_init ({ frames := 1, cells := 7, slots := 280, locals := 40 })).room s m args below meth c H locs 7 280 Q (F0 m 128 ls [])) :
    ∀ (k i : Nat) (H : Heap) (locs : List Loc) (ls : Array Slot), i + k = 8 → va_P (dC, dI) vwCl (mw cI cJ cZ a 0 lg 0 1000 0 (va_up M g (0, 0, 0, (fun _ => 0), (fun _ => 0), (fun _ => 0), mo1 i))) H → va_S A s.heap H locs → lv_has ls 4 [(3, .int (nI i)), (2, .int (nI g)), (0, .ref (a 0)), (1, .int p0)] → W p l e (headSpec w_M_init ({ frames := 1, cells := 7, slots := 280, locals := 40 })).room s m args below meth c H locs 7 280 Q (F0 m 102 ls []) := by
  intro k
  induction k with
  | zero =>
    intro i H locs ls hi hP hS hl
    have hi8 : i = 8 := by omega
    subst hi8
    refine lv_iload_n hx hb d_M_init_102 rfl (lv_at hl 0 rfl) ?_
    refine lv_bipush (v := 8) hx hb d_M_init_103 (by decide) ?_
    refine lv_icmp_ge (tgt := 128) hx hb d_M_init_105 (by decide) (fun c_1 => ?_) (fun c_1 => ?_)
    · exact kk H locs ls hP hS hl
    · exact absurd (nI_le (Nat.le_refl 8) (by decide)) c_1
  | succ k ih =>
    intro i H locs ls hi hP hS hl
    refine lv_iload_n hx hb d_M_init_102 rfl (lv_at hl 0 rfl) ?_
    refine lv_bipush (v := 8) hx hb d_M_init_103 (by decide) ?_
    refine lv_icmp_ge (tgt := 128) hx hb d_M_init_105 (by decide) (fun c_1 => ?_) (fun c_1 => ?_)
    · exact absurd c_1 (nI_ge (a := i) (b := 8) (by omega) (by decide))
    · refine lv_aload_n hx hb d_M_init_108 rfl (lv_at hl 2 rfl) ?_
      refine va_get (D := (dC, dI)) (ci := 3) (v := .ref (a 7)) (C := R_M) (T := F_M) (N := 12) hx hb hw i_M hown hK hP 0 rfl rfl 11 (by decide) (hw _ kb_347) (fun _ h9 => h9) rfl d_M_init_109 ?_
      refine lv_bipush (v := 8) hx hb d_M_init_112 (by decide) ?_
      refine lv_iload_n hx hb d_M_init_114 rfl (lv_at hl 1 rfl) ?_
      refine lv_imul hx hb d_M_init_115 ?_
      refine lv_iload_n hx hb d_M_init_116 rfl (lv_at hl 0 rfl) ?_
      refine lv_iadd hx hb d_M_init_117 ?_
      refine lv_ldc2 (v := -1) hx hb hown (hw _ kb_335) d_M_init_118 ?_
      refine ms_of (i := i) (v := -1) hx hb hK hP hnd hAL hS hg (show i < 8 by omega) d_M_init_121 (fun H locs hP hS => ?_)
      refine lv_iinc (v := (nI i) + 1) (lv' := [(3, .int ((nI i) + 1)), (2, .int (nI g)), (0, .ref (a 0)), (1, .int p0)]) hx hb d_M_init_122 hl (k := 0) rfl rfl (by decide) rfl (fun ls hl => ?_)
      refine lv_goto (tgt := 102) hx hb d_M_init_125 (by decide) ?_
      exact ih (i + 1) H locs ls (by omega) hP hS (by rw [nI_succ]; exact lv_sub hl [0, 1, 2, 3] rfl)
set_option maxHeartbeats 4000000 in
set_option maxRecDepth 100000 in
theorem lp_M_in2 {p : Program} {l : Launch} {e : Env} {s : State} {m : MethodId} {args : Array Value} {below : List Frame} {meth : Method} {c : Code} {Q : State → Prop} {dC : Nat → ClassId} {dI : Nat → Nat → Nat} {cI cJ cZ : ClassId} {a : Nat → Nat} (hnd : (mad a).Nodup) {p0 lg : Int32} {A : Nat → Prop} (hx : p.tables.exec = Jvm.exec) (hb : c.code = b_M_init) (hml : c.maxLocals = 4) (hown : s.vm.findClass R_M = some m.cls) (hw : ∀ w ∈ kb_B, w.before args s = true) (hK : va_K (dC, dI) vwCl (mty cI cJ cZ) s) (hA : ∀ q : Nat, s.heap.size ≤ q → A q) (hAL : ∀ q ∈ mad a, A q)
    (kk : ∀ (H : Heap) (locs : List Loc) (ls : Array Slot), va_P (dC, dI) vwCl (mw cI cJ cZ a 0 lg 0 1000 0 (mMi 8)) H → va_S A s.heap H locs → W p l e (headSpec w_M_init ({ frames := 1, cells := 7, slots := 280, locals := 40 })).room s m args below meth c H locs 7 280 Q (F0 m 134 ls [])) :
    ∀ (k g : Nat) (H : Heap) (locs : List Loc) (ls : Array Slot), g + k = 8 → va_P (dC, dI) vwCl (mw cI cJ cZ a 0 lg 0 1000 0 (mMi g)) H → va_S A s.heap H locs → (∃ lx, lv_has ls 4 ([(2, .int (nI g)), (0, .ref (a 0)), (1, .int p0)] ++ lx)) → W p l e (headSpec w_M_init ({ frames := 1, cells := 7, slots := 280, locals := 40 })).room s m args below meth c H locs 7 280 Q (F0 m 94 ls []) := by
  intro k
  induction k with
  | zero =>
    intro g H locs ls hg hP hS hl
    obtain ⟨lx, hl⟩ := hl
    have hg8 : g = 8 := by omega
    subst hg8
    refine lv_iload_n hx hb d_M_init_94 rfl (lv_at hl 0 rfl) ?_
    refine lv_bipush (v := 8) hx hb d_M_init_95 (by decide) ?_
    refine lv_icmp_ge (tgt := 134) hx hb d_M_init_97 (by decide) (fun c_1 => ?_) (fun c_1 => ?_)
    · exact kk H locs ls hP hS
    · exact absurd (nI_le (Nat.le_refl 8) (by decide)) c_1
  | succ k ih =>
    intro g H locs ls hg hP hS hl
    obtain ⟨lx, hl⟩ := hl
    have hl : lv_has ls 4 [(2, .int (nI g)), (0, .ref (a 0)), (1, .int p0)] := lv_sub hl [0, 1, 2] rfl
    rw [← mv_at (mMi g) g, mMi_ge g g (Nat.le_refl g)] at hP
    refine lv_iload_n hx hb d_M_init_94 rfl (lv_at hl 0 rfl) ?_
    refine lv_bipush (v := 8) hx hb d_M_init_95 (by decide) ?_
    refine lv_icmp_ge (tgt := 134) hx hb d_M_init_97 (by decide) (fun c_1 => ?_) (fun c_1 => ?_)
    · exact absurd c_1 (nI_ge (a := g) (b := 8) (by omega) (by decide))
    · refine lv_iconst (v := 0) hx hb d_M_init_100 (by decide) ?_
      refine lv_istore_n (lv' := [(3, .int 0), (2, .int (nI g)), (0, .ref (a 0)), (1, .int p0)]) hx hb d_M_init_101 rfl hl (by decide) rfl (fun ls hl => ?_)
      refine lp_M_in1 hnd (show g < 8 by omega) hx hb hml hown hw hK hA hAL (fun H locs ls hP hS hl => ?_) 8 0 _ _ ls rfl hP hS (lv_sub hl [0, 1, 2, 3] rfl)
      refine lv_iinc (v := (nI g) + 1) (lv' := [(2, .int ((nI g) + 1)), (3, .int (nI 8)), (0, .ref (a 0)), (1, .int p0)]) hx hb d_M_init_128 hl (k := 1) rfl rfl (by decide) rfl (fun ls hl => ?_)
      refine lv_goto (tgt := 94) hx hb d_M_init_131 (by decide) ?_
      refine ih (g + 1) H locs ls (by omega) hP hS ⟨[], ?_⟩
      rw [nI_succ]; exact lv_sub hl [0, 2, 3] rfl
set_option maxHeartbeats 4000000 in
set_option maxRecDepth 100000 in
theorem lp_M_in3 {p : Program} {l : Launch} {e : Env} {s : State} {m : MethodId} {args : Array Value} {below : List Frame} {meth : Method} {c : Code} {Q : State → Prop} {dC : Nat → ClassId} {dI : Nat → Nat → Nat} {cI cJ cZ : ClassId} {a : Nat → Nat} (hnd : (mad a).Nodup) {p0 lg : Int32} {A : Nat → Prop} (hx : p.tables.exec = Jvm.exec) (hb : c.code = b_M_init) (hml : c.maxLocals = 4) (hown : s.vm.findClass R_M = some m.cls) (hw : ∀ w ∈ kb_B, w.before args s = true) (hK : va_K (dC, dI) vwCl (mty cI cJ cZ) s) (hA : ∀ q : Nat, s.heap.size ≤ q → A q) (hAL : ∀ q ∈ mad a, A q) (hin : meth.name = "<init>") {v : Int32} {H : Heap} {locs : List Loc} {ls : Array Slot} (hP : va_P (dC, dI) vwCl (mw cI cJ cZ a 0 lg 0 1000 0 (mMi 0)) H) (hS : va_S A s.heap H locs) (hl : lv_has ls 4 [(0, .ref (a 0)), (1, .int p0)])
    (kk : ∀ (H : Heap) (locs : List Loc) (ls : Array Slot), va_P (dC, dI) vwCl (mw cI cJ cZ a 0 v 0 1000 0 (mMi 8)) H → va_S A s.heap H locs → W p l e (headSpec w_M_init ({ frames := 1, cells := 7, slots := 280, locals := 40 })).room s m args below meth c H locs 7 280 Q (F0 m 134 ls [])) :
    W p l e (headSpec w_M_init ({ frames := 1, cells := 7, slots := 280, locals := 40 })).room s m args below meth c H locs 7 280 Q (F0 m 89 ls [.int v, .ref (a 0)]) := by
  refine va_putF (D := (dC, dI)) (ci := 3) (v := .int v) (ty := .int) (C := R_M) (T := F_M) (N := 12) hx hb hw i_M t_M t_M_ok n_M hown hK hP (mw_D hnd hAL) hS 0 rfl rfl 1 (by decide) (hw _ kb_337) (fun _ h9 => h9) rfl hin rfl (by decide +kernel) rfl rfl (Nat.le_of_ble_eq_true rfl) d_M_init_89 (fun H locs hP _ hS => ?_)
  have hP : va_P (dC, dI) vwCl (mw cI cJ cZ a 0 v 0 1000 0 (mMi 0)) _ := hP
  refine lv_iconst (v := 0) hx hb d_M_init_92 (by decide) ?_
  refine lv_istore_n (lv' := [(2, .int 0), (0, .ref (a 0)), (1, .int p0)]) hx hb d_M_init_93 rfl hl (by decide) rfl (fun ls hl => ?_)
  exact lp_M_in2 hnd hx hb hml hown hw hK hA hAL kk 8 0 _ _ ls rfl hP hS ⟨[], lv_sub hl [0, 1, 2] rfl⟩
set_option maxHeartbeats 4000000 in
set_option maxRecDepth 100000 in
theorem c_M_init (l : Launch) {dC : Nat → ClassId} {dI : Nat → Nat → Nat} {cI cJ cZ : ClassId} (d : Nat) (p0 : Int32) (sz : Nat) : Met l y_M_init w_M_init ({ frames := 1, cells := 7, slots := 280, locals := 40 }) (kPre (dC, dI) vwCl (mty cI cJ cZ) [.ref d, .int p0] sz [(d, .inr (3, [.int 0, .int 0, .int 0, .int 0, .int 0, .null, .null, .null, .null, .null, .null, .null]))]) (va_Qv (fun u : Nat → Nat => u 0 = d ∧ (mad u).Nodup ∧ ∀ q ∈ mad u, q = d ∨ sz ≤ q) (fun u t => va_P (dC, dI) vwCl (mw cI cJ cZ u 0 (k_lg p0) 0 1000 0 (mMi 8)) t.heap) (kA [d] sz)) 7 280 (kA [d] sz) := by
  refine Met.ofW (cc := b_M_init) (maxL := 4) (ret := none) (by decide) rfl ?_
  intro p e s m args below meth c s₁ B hml hv
  obtain ⟨rfl, hsz, hP, hK⟩ := hv
  have hx := B.exec
  have hb := B.bytes
  have hr := B.returns
  have hts := atoms_spec (ws := w_M_init) B.pre
  have hw := fun (w : Cond) (h : w ∈ kb_B) => hts w (List.mem_cons_of_mem _ h)
  have hown : s.vm.findClass R_M = some m.cls := findClass_of_methodNamed B.named
  have hlocks := B.notSynchronized
  have hin : meth.name = "<init>" := (name_of_methodNamed B.named B.method).1
  subst hsz
  generalize hAe : kA [d] s.heap.size = A
  have hA : ∀ q : Nat, s.heap.size ≤ q → A q := fun q h => by rw [← hAe]; exact Or.inr h
  have hAL : ∀ z ∈ [d], A z := fun z h => by rw [← hAe]; exact Or.inl h
  have hS : va_S A s.heap s.heap [] := va_S.rf
  have hl := lv_entry ([.ref d, .int p0]) (n := 4) (Nat.le_of_ble_eq_true rfl)
  rw [lg_entry_eq]
  generalize (lg_sl ([.ref d, .int p0]) ++ List.replicate (4 - (lg_sl ([.ref d, .int p0])).length) Slot.unset).toArray = ls at hl ⊢
  have hl : lv_has ls 4 [(0, .ref d), (1, .int p0)] := hl
  have hD : va_D A [(d, .inr (3, [.int 0, .int 0, .int 0, .int 0, .int 0, .null, .null, .null, .null, .null, .null, .null]))] := kl_D (by simp) (fun z h => hAL z h)
  refine lv_aload_n hx hb d_M_init_0 rfl (lv_at hl 0 rfl) ?_
  refine W.objInit hx hb hown (hw _ kb_334) (hw _ kb_18) (hw _ kb_19) rfl (by rw [hml]; exact hl.1) rfl d_M_init_1 (Nat.le_of_ble_eq_true rfl) (Nat.le_of_ble_eq_true rfl) ?_
  refine W.eq (g2 := F0 m 4 ls []) rfl ?_
  refine lv_aload_n hx hb d_M_init_4 rfl (lv_at hl 0 rfl) ?_
  refine lv_sipush (v := 1000) hx hb d_M_init_5 (by decide) ?_
  refine va_put (D := (dC, dI)) (ci := 3) (v := .int 1000) (ty := .int) (C := R_M) (T := F_M) (N := 12) hx hb hw i_M t_M t_M_ok n_M hown hK hP hD hS 0 rfl rfl 3 (by decide) (hw _ kb_339) (fun _ h9 => h9) rfl (by decide +kernel) rfl rfl (Nat.le_of_ble_eq_true rfl) d_M_init_8 (fun H locs hP hD hS => ?_)
  have hP : va_P (dC, dI) vwCl [(d, .inr (3, [.int 0, .int 0, .int 0, .int 1000, .int 0, .null, .null, .null, .null, .null, .null, .null]))] H := hP
  have hD : va_D A [(d, .inr (3, [.int 0, .int 0, .int 0, .int 1000, .int 0, .null, .null, .null, .null, .null, .null, .null]))] := hD
  refine lv_aload_n hx hb d_M_init_11 rfl (lv_at hl 0 rfl) ?_
  refine lv_bipush (v := 8) hx hb d_M_init_12 (by decide) ?_
  refine va_newa (atype := .int) (a0 := (8, .inl (fun _ => 0))) hx hb (hw _ kb_80) rfl hK hP hD hS hA (fun _ => rfl) (by decide) rfl (by decide) (Nat.le_of_ble_eq_true rfl) (Nat.le_of_ble_eq_true rfl) d_M_init_14 (fun q1 cA H hK2 hP hD hS => ?_)
  obtain rfl : cI = cA := Option.some.inj ((hK2.2 0 _ rfl).2.symm.trans (hK2.2 3 _ rfl).2)
  have hP : va_P (dC, dI) vwCl [(d, .inr (3, [.int 0, .int 0, .int 0, .int 1000, .int 0, .null, .null, .null, .null, .null, .null, .null])), (q1, .inl (cI, 8, .inl (fun _ => 0)))] H := hP
  have hD : va_D A [(d, .inr (3, [.int 0, .int 0, .int 0, .int 1000, .int 0, .null, .null, .null, .null, .null, .null, .null])), (q1, .inl (cI, 8, .inl (fun _ => 0)))] := hD
  refine va_putF (D := (dC, dI)) (ci := 3) (v := .ref q1) (ty := .array .int) (C := R_M) (T := F_M) (N := 12) hx hb hw i_M t_M t_M_ok n_M hown hK hP hD hS 0 rfl rfl 5 (by decide) (hw _ kb_341) (fun _ h9 => h9) rfl hin rfl (by decide +kernel) rfl rfl (Nat.le_of_ble_eq_true rfl) d_M_init_16 (fun H locs hP hD hS => ?_)
  have hP : va_P (dC, dI) vwCl [(d, .inr (3, [.int 0, .int 0, .int 0, .int 1000, .int 0, .ref q1, .null, .null, .null, .null, .null, .null])), (q1, .inl (cI, 8, .inl (fun _ => 0)))] H := hP
  have hD : va_D A [(d, .inr (3, [.int 0, .int 0, .int 0, .int 1000, .int 0, .ref q1, .null, .null, .null, .null, .null, .null])), (q1, .inl (cI, 8, .inl (fun _ => 0)))] := hD
  refine lv_aload_n hx hb d_M_init_19 rfl (lv_at hl 0 rfl) ?_
  refine lv_bipush (v := 8) hx hb d_M_init_20 (by decide) ?_
  refine va_newa (atype := .int) (a0 := (8, .inl (fun _ => 0))) hx hb (hw _ kb_80) rfl hK hP hD hS hA (fun _ => rfl) (by decide) rfl (by decide) (Nat.le_of_ble_eq_true rfl) (Nat.le_of_ble_eq_true rfl) d_M_init_22 (fun q2 cA H hK2 hP hD hS => ?_)
  obtain rfl : cI = cA := Option.some.inj ((hK2.2 0 _ rfl).2.symm.trans (hK2.2 3 _ rfl).2)
  have hP : va_P (dC, dI) vwCl [(d, .inr (3, [.int 0, .int 0, .int 0, .int 1000, .int 0, .ref q1, .null, .null, .null, .null, .null, .null])), (q1, .inl (cI, 8, .inl (fun _ => 0))), (q2, .inl (cI, 8, .inl (fun _ => 0)))] H := hP
  have hD : va_D A [(d, .inr (3, [.int 0, .int 0, .int 0, .int 1000, .int 0, .ref q1, .null, .null, .null, .null, .null, .null])), (q1, .inl (cI, 8, .inl (fun _ => 0))), (q2, .inl (cI, 8, .inl (fun _ => 0)))] := hD
  refine va_putF (D := (dC, dI)) (ci := 3) (v := .ref q2) (ty := .array .int) (C := R_M) (T := F_M) (N := 12) hx hb hw i_M t_M t_M_ok n_M hown hK hP hD hS 0 rfl rfl 6 (by decide) (hw _ kb_342) (fun _ h9 => h9) rfl hin rfl (by decide +kernel) rfl rfl (Nat.le_of_ble_eq_true rfl) d_M_init_24 (fun H locs hP hD hS => ?_)
  have hP : va_P (dC, dI) vwCl [(d, .inr (3, [.int 0, .int 0, .int 0, .int 1000, .int 0, .ref q1, .ref q2, .null, .null, .null, .null, .null])), (q1, .inl (cI, 8, .inl (fun _ => 0))), (q2, .inl (cI, 8, .inl (fun _ => 0)))] H := hP
  have hD : va_D A [(d, .inr (3, [.int 0, .int 0, .int 0, .int 1000, .int 0, .ref q1, .ref q2, .null, .null, .null, .null, .null])), (q1, .inl (cI, 8, .inl (fun _ => 0))), (q2, .inl (cI, 8, .inl (fun _ => 0)))] := hD
  refine lv_aload_n hx hb d_M_init_27 rfl (lv_at hl 0 rfl) ?_
  refine lv_bipush (v := 8) hx hb d_M_init_28 (by decide) ?_
  refine va_newa (atype := .int) (a0 := (8, .inl (fun _ => 0))) hx hb (hw _ kb_80) rfl hK hP hD hS hA (fun _ => rfl) (by decide) rfl (by decide) (Nat.le_of_ble_eq_true rfl) (Nat.le_of_ble_eq_true rfl) d_M_init_30 (fun q3 cA H hK2 hP hD hS => ?_)
  obtain rfl : cI = cA := Option.some.inj ((hK2.2 0 _ rfl).2.symm.trans (hK2.2 3 _ rfl).2)
  have hP : va_P (dC, dI) vwCl [(d, .inr (3, [.int 0, .int 0, .int 0, .int 1000, .int 0, .ref q1, .ref q2, .null, .null, .null, .null, .null])), (q1, .inl (cI, 8, .inl (fun _ => 0))), (q2, .inl (cI, 8, .inl (fun _ => 0))), (q3, .inl (cI, 8, .inl (fun _ => 0)))] H := hP
  have hD : va_D A [(d, .inr (3, [.int 0, .int 0, .int 0, .int 1000, .int 0, .ref q1, .ref q2, .null, .null, .null, .null, .null])), (q1, .inl (cI, 8, .inl (fun _ => 0))), (q2, .inl (cI, 8, .inl (fun _ => 0))), (q3, .inl (cI, 8, .inl (fun _ => 0)))] := hD
  refine va_putF (D := (dC, dI)) (ci := 3) (v := .ref q3) (ty := .array .int) (C := R_M) (T := F_M) (N := 12) hx hb hw i_M t_M t_M_ok n_M hown hK hP hD hS 0 rfl rfl 7 (by decide) (hw _ kb_343) (fun _ h9 => h9) rfl hin rfl (by decide +kernel) rfl rfl (Nat.le_of_ble_eq_true rfl) d_M_init_32 (fun H locs hP hD hS => ?_)
  have hP : va_P (dC, dI) vwCl [(d, .inr (3, [.int 0, .int 0, .int 0, .int 1000, .int 0, .ref q1, .ref q2, .ref q3, .null, .null, .null, .null])), (q1, .inl (cI, 8, .inl (fun _ => 0))), (q2, .inl (cI, 8, .inl (fun _ => 0))), (q3, .inl (cI, 8, .inl (fun _ => 0)))] H := hP
  have hD : va_D A [(d, .inr (3, [.int 0, .int 0, .int 0, .int 1000, .int 0, .ref q1, .ref q2, .ref q3, .null, .null, .null, .null])), (q1, .inl (cI, 8, .inl (fun _ => 0))), (q2, .inl (cI, 8, .inl (fun _ => 0))), (q3, .inl (cI, 8, .inl (fun _ => 0)))] := hD
  refine lv_aload_n hx hb d_M_init_35 rfl (lv_at hl 0 rfl) ?_
  refine lv_bipush (v := 64) hx hb d_M_init_36 (by decide) ?_
  refine va_newa (atype := .boolean) (a0 := (64, .inl (fun _ => 0))) hx hb (hw _ kb_373) rfl hK hP hD hS hA (fun _ => rfl) (by decide) rfl (by decide) (Nat.le_of_ble_eq_true rfl) (Nat.le_of_ble_eq_true rfl) d_M_init_38 (fun q4 cA H hK2 hP hD hS => ?_)
  obtain rfl : cZ = cA := Option.some.inj ((hK2.2 2 _ rfl).2.symm.trans (hK2.2 3 _ rfl).2)
  have hP : va_P (dC, dI) vwCl [(d, .inr (3, [.int 0, .int 0, .int 0, .int 1000, .int 0, .ref q1, .ref q2, .ref q3, .null, .null, .null, .null])), (q1, .inl (cI, 8, .inl (fun _ => 0))), (q2, .inl (cI, 8, .inl (fun _ => 0))), (q3, .inl (cI, 8, .inl (fun _ => 0))), (q4, .inl (cZ, 64, .inl (fun _ => 0)))] H := hP
  have hD : va_D A [(d, .inr (3, [.int 0, .int 0, .int 0, .int 1000, .int 0, .ref q1, .ref q2, .ref q3, .null, .null, .null, .null])), (q1, .inl (cI, 8, .inl (fun _ => 0))), (q2, .inl (cI, 8, .inl (fun _ => 0))), (q3, .inl (cI, 8, .inl (fun _ => 0))), (q4, .inl (cZ, 64, .inl (fun _ => 0)))] := hD
  refine va_putF (D := (dC, dI)) (ci := 3) (v := .ref q4) (ty := .array .boolean) (C := R_M) (T := F_M) (N := 12) hx hb hw i_M t_M t_M_ok n_M hown hK hP hD hS 0 rfl rfl 8 (by decide) (hw _ kb_344) (fun _ h9 => h9) rfl hin rfl (by decide +kernel) rfl rfl (Nat.le_of_ble_eq_true rfl) d_M_init_40 (fun H locs hP hD hS => ?_)
  have hP : va_P (dC, dI) vwCl [(d, .inr (3, [.int 0, .int 0, .int 0, .int 1000, .int 0, .ref q1, .ref q2, .ref q3, .ref q4, .null, .null, .null])), (q1, .inl (cI, 8, .inl (fun _ => 0))), (q2, .inl (cI, 8, .inl (fun _ => 0))), (q3, .inl (cI, 8, .inl (fun _ => 0))), (q4, .inl (cZ, 64, .inl (fun _ => 0)))] H := hP
  have hD : va_D A [(d, .inr (3, [.int 0, .int 0, .int 0, .int 1000, .int 0, .ref q1, .ref q2, .ref q3, .ref q4, .null, .null, .null])), (q1, .inl (cI, 8, .inl (fun _ => 0))), (q2, .inl (cI, 8, .inl (fun _ => 0))), (q3, .inl (cI, 8, .inl (fun _ => 0))), (q4, .inl (cZ, 64, .inl (fun _ => 0)))] := hD
  refine lv_aload_n hx hb d_M_init_43 rfl (lv_at hl 0 rfl) ?_
  refine lv_bipush (v := 64) hx hb d_M_init_44 (by decide) ?_
  refine va_newa (atype := .boolean) (a0 := (64, .inl (fun _ => 0))) hx hb (hw _ kb_373) rfl hK hP hD hS hA (fun _ => rfl) (by decide) rfl (by decide) (Nat.le_of_ble_eq_true rfl) (Nat.le_of_ble_eq_true rfl) d_M_init_46 (fun q5 cA H hK2 hP hD hS => ?_)
  obtain rfl : cZ = cA := Option.some.inj ((hK2.2 2 _ rfl).2.symm.trans (hK2.2 3 _ rfl).2)
  have hP : va_P (dC, dI) vwCl [(d, .inr (3, [.int 0, .int 0, .int 0, .int 1000, .int 0, .ref q1, .ref q2, .ref q3, .ref q4, .null, .null, .null])), (q1, .inl (cI, 8, .inl (fun _ => 0))), (q2, .inl (cI, 8, .inl (fun _ => 0))), (q3, .inl (cI, 8, .inl (fun _ => 0))), (q4, .inl (cZ, 64, .inl (fun _ => 0))), (q5, .inl (cZ, 64, .inl (fun _ => 0)))] H := hP
  have hD : va_D A [(d, .inr (3, [.int 0, .int 0, .int 0, .int 1000, .int 0, .ref q1, .ref q2, .ref q3, .ref q4, .null, .null, .null])), (q1, .inl (cI, 8, .inl (fun _ => 0))), (q2, .inl (cI, 8, .inl (fun _ => 0))), (q3, .inl (cI, 8, .inl (fun _ => 0))), (q4, .inl (cZ, 64, .inl (fun _ => 0))), (q5, .inl (cZ, 64, .inl (fun _ => 0)))] := hD
  refine va_putF (D := (dC, dI)) (ci := 3) (v := .ref q5) (ty := .array .boolean) (C := R_M) (T := F_M) (N := 12) hx hb hw i_M t_M t_M_ok n_M hown hK hP hD hS 0 rfl rfl 9 (by decide) (hw _ kb_345) (fun _ h9 => h9) rfl hin rfl (by decide +kernel) rfl rfl (Nat.le_of_ble_eq_true rfl) d_M_init_48 (fun H locs hP hD hS => ?_)
  have hP : va_P (dC, dI) vwCl [(d, .inr (3, [.int 0, .int 0, .int 0, .int 1000, .int 0, .ref q1, .ref q2, .ref q3, .ref q4, .ref q5, .null, .null])), (q1, .inl (cI, 8, .inl (fun _ => 0))), (q2, .inl (cI, 8, .inl (fun _ => 0))), (q3, .inl (cI, 8, .inl (fun _ => 0))), (q4, .inl (cZ, 64, .inl (fun _ => 0))), (q5, .inl (cZ, 64, .inl (fun _ => 0)))] H := hP
  have hD : va_D A [(d, .inr (3, [.int 0, .int 0, .int 0, .int 1000, .int 0, .ref q1, .ref q2, .ref q3, .ref q4, .ref q5, .null, .null])), (q1, .inl (cI, 8, .inl (fun _ => 0))), (q2, .inl (cI, 8, .inl (fun _ => 0))), (q3, .inl (cI, 8, .inl (fun _ => 0))), (q4, .inl (cZ, 64, .inl (fun _ => 0))), (q5, .inl (cZ, 64, .inl (fun _ => 0)))] := hD
  refine lv_aload_n hx hb d_M_init_51 rfl (lv_at hl 0 rfl) ?_
  refine lv_bipush (v := 64) hx hb d_M_init_52 (by decide) ?_
  refine va_newa (atype := .int) (a0 := (64, .inl (fun _ => 0))) hx hb (hw _ kb_80) rfl hK hP hD hS hA (fun _ => rfl) (by decide) rfl (by decide) (Nat.le_of_ble_eq_true rfl) (Nat.le_of_ble_eq_true rfl) d_M_init_54 (fun q6 cA H hK2 hP hD hS => ?_)
  obtain rfl : cI = cA := Option.some.inj ((hK2.2 0 _ rfl).2.symm.trans (hK2.2 3 _ rfl).2)
  have hP : va_P (dC, dI) vwCl [(d, .inr (3, [.int 0, .int 0, .int 0, .int 1000, .int 0, .ref q1, .ref q2, .ref q3, .ref q4, .ref q5, .null, .null])), (q1, .inl (cI, 8, .inl (fun _ => 0))), (q2, .inl (cI, 8, .inl (fun _ => 0))), (q3, .inl (cI, 8, .inl (fun _ => 0))), (q4, .inl (cZ, 64, .inl (fun _ => 0))), (q5, .inl (cZ, 64, .inl (fun _ => 0))), (q6, .inl (cI, 64, .inl (fun _ => 0)))] H := hP
  have hD : va_D A [(d, .inr (3, [.int 0, .int 0, .int 0, .int 1000, .int 0, .ref q1, .ref q2, .ref q3, .ref q4, .ref q5, .null, .null])), (q1, .inl (cI, 8, .inl (fun _ => 0))), (q2, .inl (cI, 8, .inl (fun _ => 0))), (q3, .inl (cI, 8, .inl (fun _ => 0))), (q4, .inl (cZ, 64, .inl (fun _ => 0))), (q5, .inl (cZ, 64, .inl (fun _ => 0))), (q6, .inl (cI, 64, .inl (fun _ => 0)))] := hD
  refine va_putF (D := (dC, dI)) (ci := 3) (v := .ref q6) (ty := .array .int) (C := R_M) (T := F_M) (N := 12) hx hb hw i_M t_M t_M_ok n_M hown hK hP hD hS 0 rfl rfl 10 (by decide) (hw _ kb_346) (fun _ h9 => h9) rfl hin rfl (by decide +kernel) rfl rfl (Nat.le_of_ble_eq_true rfl) d_M_init_56 (fun H locs hP hD hS => ?_)
  have hP : va_P (dC, dI) vwCl [(d, .inr (3, [.int 0, .int 0, .int 0, .int 1000, .int 0, .ref q1, .ref q2, .ref q3, .ref q4, .ref q5, .ref q6, .null])), (q1, .inl (cI, 8, .inl (fun _ => 0))), (q2, .inl (cI, 8, .inl (fun _ => 0))), (q3, .inl (cI, 8, .inl (fun _ => 0))), (q4, .inl (cZ, 64, .inl (fun _ => 0))), (q5, .inl (cZ, 64, .inl (fun _ => 0))), (q6, .inl (cI, 64, .inl (fun _ => 0)))] H := hP
  have hD : va_D A [(d, .inr (3, [.int 0, .int 0, .int 0, .int 1000, .int 0, .ref q1, .ref q2, .ref q3, .ref q4, .ref q5, .ref q6, .null])), (q1, .inl (cI, 8, .inl (fun _ => 0))), (q2, .inl (cI, 8, .inl (fun _ => 0))), (q3, .inl (cI, 8, .inl (fun _ => 0))), (q4, .inl (cZ, 64, .inl (fun _ => 0))), (q5, .inl (cZ, 64, .inl (fun _ => 0))), (q6, .inl (cI, 64, .inl (fun _ => 0)))] := hD
  refine lv_aload_n hx hb d_M_init_59 rfl (lv_at hl 0 rfl) ?_
  refine lv_bipush (v := 64) hx hb d_M_init_60 (by decide) ?_
  refine va_newa (atype := .long) (a0 := (64, .inr (.inl (fun _ => 0)))) hx hb (hw _ kb_81) rfl hK hP hD hS hA (fun _ => rfl) (by decide) rfl (by decide) (Nat.le_of_ble_eq_true rfl) (Nat.le_of_ble_eq_true rfl) d_M_init_62 (fun q7 cA H hK2 hP hD hS => ?_)
  obtain rfl : cJ = cA := Option.some.inj ((hK2.2 1 _ rfl).2.symm.trans (hK2.2 3 _ rfl).2)
  have hP : va_P (dC, dI) vwCl [(d, .inr (3, [.int 0, .int 0, .int 0, .int 1000, .int 0, .ref q1, .ref q2, .ref q3, .ref q4, .ref q5, .ref q6, .null])), (q1, .inl (cI, 8, .inl (fun _ => 0))), (q2, .inl (cI, 8, .inl (fun _ => 0))), (q3, .inl (cI, 8, .inl (fun _ => 0))), (q4, .inl (cZ, 64, .inl (fun _ => 0))), (q5, .inl (cZ, 64, .inl (fun _ => 0))), (q6, .inl (cI, 64, .inl (fun _ => 0))), (q7, .inl (cJ, 64, .inr (.inl (fun _ => 0))))] H := hP
  have hD : va_D A [(d, .inr (3, [.int 0, .int 0, .int 0, .int 1000, .int 0, .ref q1, .ref q2, .ref q3, .ref q4, .ref q5, .ref q6, .null])), (q1, .inl (cI, 8, .inl (fun _ => 0))), (q2, .inl (cI, 8, .inl (fun _ => 0))), (q3, .inl (cI, 8, .inl (fun _ => 0))), (q4, .inl (cZ, 64, .inl (fun _ => 0))), (q5, .inl (cZ, 64, .inl (fun _ => 0))), (q6, .inl (cI, 64, .inl (fun _ => 0))), (q7, .inl (cJ, 64, .inr (.inl (fun _ => 0))))] := hD
  refine va_putF (D := (dC, dI)) (ci := 3) (v := .ref q7) (ty := .array .long) (C := R_M) (T := F_M) (N := 12) hx hb hw i_M t_M t_M_ok n_M hown hK hP hD hS 0 rfl rfl 11 (by decide) (hw _ kb_347) (fun _ h9 => h9) rfl hin rfl (by decide +kernel) rfl rfl (Nat.le_of_ble_eq_true rfl) d_M_init_64 (fun H locs hP hD hS => ?_)
  have hP : va_P (dC, dI) vwCl [(d, .inr (3, [.int 0, .int 0, .int 0, .int 1000, .int 0, .ref q1, .ref q2, .ref q3, .ref q4, .ref q5, .ref q6, .ref q7])), (q1, .inl (cI, 8, .inl (fun _ => 0))), (q2, .inl (cI, 8, .inl (fun _ => 0))), (q3, .inl (cI, 8, .inl (fun _ => 0))), (q4, .inl (cZ, 64, .inl (fun _ => 0))), (q5, .inl (cZ, 64, .inl (fun _ => 0))), (q6, .inl (cI, 64, .inl (fun _ => 0))), (q7, .inl (cJ, 64, .inr (.inl (fun _ => 0))))] H := hP
  have hD : va_D A [(d, .inr (3, [.int 0, .int 0, .int 0, .int 1000, .int 0, .ref q1, .ref q2, .ref q3, .ref q4, .ref q5, .ref q6, .ref q7])), (q1, .inl (cI, 8, .inl (fun _ => 0))), (q2, .inl (cI, 8, .inl (fun _ => 0))), (q3, .inl (cI, 8, .inl (fun _ => 0))), (q4, .inl (cZ, 64, .inl (fun _ => 0))), (q5, .inl (cZ, 64, .inl (fun _ => 0))), (q6, .inl (cI, 64, .inl (fun _ => 0))), (q7, .inl (cJ, 64, .inr (.inl (fun _ => 0))))] := hD
  have hnd : (mad (mAd [d, q1, q2, q3, q4, q5, q6, q7])).Nodup := kl_nd hD
  have hne : ∀ q ∈ mad (mAd [d, q1, q2, q3, q4, q5, q6, q7]), q = d ∨ s.heap.size ≤ q := by
    intro q hq
    obtain ⟨x, hx1, hx2⟩ := List.mem_map.mp (show q ∈ ([(d, .inr (3, [.int 0, .int 0, .int 0, .int 1000, .int 0, .ref q1, .ref q2, .ref q3, .ref q4, .ref q5, .ref q6, .ref q7])), (q1, .inl (cI, 8, .inl (fun _ => 0))), (q2, .inl (cI, 8, .inl (fun _ => 0))), (q3, .inl (cI, 8, .inl (fun _ => 0))), (q4, .inl (cZ, 64, .inl (fun _ => 0))), (q5, .inl (cZ, 64, .inl (fun _ => 0))), (q6, .inl (cI, 64, .inl (fun _ => 0))), (q7, .inl (cJ, 64, .inr (.inl (fun _ => 0))))] : va_W).map Prod.fst from hq)
    obtain ⟨k1, hk1⟩ := List.getElem?_of_mem hx1
    have h2 := hD.2 k1 x hk1
    rw [← hAe, hx2] at h2
    exact h2.imp (fun z => List.mem_singleton.mp z) id
  have hAM : ∀ q ∈ mad (mAd [d, q1, q2, q3, q4, q5, q6, q7]), A q := fun q h => by rw [← hAe]; exact (hne q h).imp (fun z => List.mem_singleton.mpr z) id
  have hP : va_P (dC, dI) vwCl (mw cI cJ cZ (mAd [d, q1, q2, q3, q4, q5, q6, q7]) 0 0 0 1000 0 (mMi 0)) H := hP
  clear hAL
  refine lv_aload_n hx hb d_M_init_67 rfl (lv_at hl 0 rfl) ?_
  refine lv_iload_n hx hb d_M_init_68 rfl (lv_at hl 1 rfl) ?_
  refine lv_iconst (v := 1) hx hb d_M_init_69 (by decide) ?_
  refine lv_icmp_ge (tgt := 77) hx hb d_M_init_70 (by decide) (fun c_1 => ?_) (fun c_1 => ?_)
  · refine lv_iload_n hx hb d_M_init_77 rfl (lv_at hl 1 rfl) ?_
    refine lv_bipush (v := 8) hx hb d_M_init_78 (by decide) ?_
    refine lv_icmp_le (tgt := 88) hx hb d_M_init_80 (by decide) (fun c_2 => ?_) (fun c_2 => ?_)
    · refine lv_iload_n hx hb d_M_init_88 rfl (lv_at hl 1 rfl) ?_
      refine lp_M_in3 (a := mAd [d, q1, q2, q3, q4, q5, q6, q7]) hnd hx hb hml hown hw hK hA hAM hin (v := p0) hP hS hl (fun H locs ls hP hS => ?_)
      exact W.vret hx hb hr (fun t ht hW => ⟨⟨mAd [d, q1, q2, q3, q4, q5, q6, q7], rfl, ⟨rfl, hnd, hne⟩, by show va_P _ _ _ t.heap; rw [ht, ← m_lg p0, if_pos c_1, if_pos c_2]; exact hP⟩, hS.F ht⟩) hS.2.2 d_M_init_134
    · refine lv_bipush (v := 8) hx hb d_M_init_83 (by decide) ?_
      refine lv_goto (tgt := 89) hx hb d_M_init_85 (by decide) ?_
      refine lp_M_in3 (a := mAd [d, q1, q2, q3, q4, q5, q6, q7]) hnd hx hb hml hown hw hK hA hAM hin (v := 8) hP hS hl (fun H locs ls hP hS => ?_)
      exact W.vret hx hb hr (fun t ht hW => ⟨⟨mAd [d, q1, q2, q3, q4, q5, q6, q7], rfl, ⟨rfl, hnd, hne⟩, by show va_P _ _ _ t.heap; rw [ht, ← m_lg p0, if_pos c_1, if_neg c_2]; exact hP⟩, hS.F ht⟩) hS.2.2 d_M_init_134
  · refine lv_iconst (v := 1) hx hb d_M_init_73 (by decide) ?_
    refine lv_goto (tgt := 89) hx hb d_M_init_74 (by decide) ?_
    refine lp_M_in3 (a := mAd [d, q1, q2, q3, q4, q5, q6, q7]) hnd hx hb hml hown hw hK hA hAM hin (v := 1) hP hS hl (fun H locs ls hP hS => ?_)
    exact W.vret hx hb hr (fun t ht hW => ⟨⟨mAd [d, q1, q2, q3, q4, q5, q6, q7], rfl, ⟨rfl, hnd, hne⟩, by show va_P _ _ _ t.heap; rw [ht, ← m_lg p0, if_neg c_1]; exact hP⟩, hS.F ht⟩) hS.2.2 d_M_init_134
end
section
/-! masks: what bit i of an int says -/
def bt (x : Int32) (i : Nat) : Bool := x.toBitVec.getLsbD i
def b01 (x : Int32) (i : Nat) : Int32 := if bt x i then 1 else 0
/-- no bit from 8 on -/
def ks (x : Int32) : Prop := ∀ i, 8 ≤ i → bt x i = false
def kpw (i : Nat) : Int32 := 1 <<< (nI i &&& 31)
theorem bt_ge {x : Int32} {i : Nat} (h : 32 ≤ i) : bt x i = false := BitVec.getLsbD_of_ge _ _ h
theorem bt_or (x y : Int32) (i : Nat) : bt (x ||| y) i = (bt x i || bt y i) := by simp [bt, Int32.toBitVec_or]
theorem bt_and (x y : Int32) (i : Nat) : bt (x &&& y) i = (bt x i && bt y i) := by simp [bt, Int32.toBitVec_and]
theorem bt_xor (x y : Int32) (i : Nat) : bt (x ^^^ y) i = (bt x i ^^ bt y i) := by simp [bt, Int32.toBitVec_xor]
theorem bt_zero (i : Nat) : bt 0 i = false := by simp [bt]
theorem bt_m1 {i : Nat} (h : i < 32) : bt (-1) i = true := by
  have : ∀ i : Fin 32, bt (-1) i.val = true := by decide
  exact this ⟨i, h⟩
theorem bt_ext {x y : Int32} (h : ∀ i, i < 32 → bt x i = bt y i) : x = y := by
  apply Int32.toBitVec_inj.mp
  apply BitVec.eq_of_getLsbD_eq
  intro i hi
  exact h i hi
theorem bt_ext8 {x y : Int32} (hx : ks x) (hy : ks y) (h : ∀ i, i < 8 → bt x i = bt y i) : x = y := by
  apply bt_ext
  intro i hi
  by_cases h8 : i < 8
  · exact h i h8
  · rw [hx i (by omega), hy i (by omega)]
theorem ks_0 : ks 0 := fun i _ => bt_zero i
theorem bt_pw {i : Nat} (hi : i < 8) (j : Nat) : bt (kpw i) j = decide (i = j) := by
  by_cases hj : j < 32
  · have : ∀ i : Fin 8, ∀ j : Fin 32, bt (kpw i.val) j.val = decide (i.val = j.val) := by decide +kernel
    exact this ⟨i, hi⟩ ⟨j, hj⟩
  · rw [bt_ge (by omega)]
    simp
    omega
theorem ks_pw {i : Nat} (hi : i < 8) : ks (kpw i) := fun j hj => by rw [bt_pw hi]; simp; omega
theorem bt_has {x : Int32} {i : Nat} (hi : i < 8) : kg_has x (nI i) = b01 x i := by
  have e : (x &&& kpw i = 0) ↔ bt x i = false := by
    constructor
    · intro h
      have h1 := congrArg (fun z => bt z i) h
      simp only [bt_and, bt_pw hi, bt_zero, decide_true, Bool.and_true] at h1
      exact h1
    · intro h
      apply bt_ext
      intro j _
      rw [bt_and, bt_pw hi, bt_zero]
      by_cases hij : i = j
      · subst hij; simp [h]
      · simp [hij]
  unfold kg_has b01
  by_cases h : bt x i = true
  · have h1 : ¬ (x &&& kpw i = 0) := fun z => by rw [e.mp z] at h; cases h
    rw [if_pos h]
    exact if_neg h1
  · have h2 : bt x i = false := by simpa using h
    rw [if_neg h]
    exact if_pos (e.mpr h2)
theorem b01_0 {x : Int32} {i : Nat} : b01 x i = 0 ↔ bt x i = false := by
  unfold b01
  by_cases h : bt x i = true
  · simp [h]
  · simp [h]
theorem ks_or {x y : Int32} (hx : ks x) (hy : ks y) : ks (x ||| y) := fun i hi => by rw [bt_or, hx i hi, hy i hi]; rfl
theorem ks_and {x y : Int32} (hx : ks x) : ks (x &&& y) := fun i hi => by rw [bt_and, hx i hi]; rfl
theorem ks_nat {x : Int32} (h : ks x) : ∃ a, a < 256 ∧ x = nI a ∧ ∀ i, bt x i = a.testBit i := by
  refine ⟨x.toBitVec.toNat, ?_, ?_, fun i => rfl⟩
  · exact Nat.lt_pow_two_of_testBit (n := 8) _ (fun i hi => h i hi)
  · apply Int32.toBitVec_inj.mp
    show x.toBitVec = (Int32.ofNat x.toBitVec.toNat).toBitVec
    simp
def kba (a i : Nat) : Int32 := if a.testBit i then 1 else 0
theorem bt_nat {x : Int32} {a : Nat} (h : ∀ i, bt x i = a.testBit i) (i : Nat) : b01 x i = kba a i := by rw [b01, kba, h]
theorem cnt_congr {f g : Nat → Int32} {n : Nat} (h : ∀ i, i < n → f i = g i) : mg_cnt f n = mg_cnt g n := by
  induction n with
  | zero => rfl
  | succ n ih => rw [mg_cnt, mg_cnt, ih (fun i hi => h i (by omega)), h n (by omega)]
theorem jn_congr {f g f' g' : Nat → Int32} {n : Nat} (h : ∀ i, i < n → f i = g i) (h' : ∀ i, i < n → f' i = g' i) : mg_jn f f' n = mg_jn g g' n := by
  induction n with
  | zero => rfl
  | succ n ih => rw [mg_jn, mg_jn, ih (fun i hi => h i (by omega)) (fun i hi => h' i (by omega)), h n (by omega), h' n (by omega)]
/-- popcount -/
def kpc (a : Nat) : Nat → Nat
  | 0 => 0
  | i + 1 => kpc a i + (if a.testBit i then 1 else 0)
theorem kpc_bc {a : Nat} (h : a < 256) : k_bc (nI a) = nI (kpc a 8) := by
  have : ∀ a : Fin 256, k_bc (nI a.val) = nI (kpc a.val 8) := by decide +kernel
  exact this ⟨a, h⟩
theorem kpc_le (a n : Nat) : kpc a n ≤ n := by
  induction n with
  | zero => exact Nat.le_refl _
  | succ n ih =>
    rw [kpc]
    split <;> omega
theorem kpc_cnt (a n : Nat) : mg_cnt (kba a) n = nI (kpc a n) := by
  induction n with
  | zero => rfl
  | succ n ih =>
    rw [mg_cnt, kpc, ih, kba]
    by_cases h : a.testBit n = true
    · simp only [h, if_true, show ¬ (1 : Int32) = 0 by decide, if_false]
      exact nI_1 _
    · simp only [h, if_false, if_true]
      simp
/-- popcount of b within a -/
theorem kpc_jn {a b : Nat} (hs : ∀ i, i < 8 → b.testBit i = true → a.testBit i = true) {n : Nat} (hn : n ≤ 8) : mg_jn (kba a) (kba b) n = nI (kpc b n) := by
  induction n with
  | zero => rfl
  | succ n ih =>
    rw [mg_jn, kpc, ih (by omega), kba, kba]
    by_cases h : b.testBit n = true
    · have h1 := hs n (by omega) h
      simp only [h, h1, if_true, show ¬ (1 : Int32) = 0 by decide, if_false]
      exact nI_1 _
    · by_cases h1 : a.testBit n = true
      · simp [h, h1]
      · simp [h, h1]
theorem kpc_lt {a b n : Nat} (hs : ∀ i, i < n → b.testBit i = true → a.testBit i = true) : kpc b n ≤ kpc a n ∧ (kpc a n ≤ kpc b n → ∀ i, i < n → a.testBit i = b.testBit i) := by
  induction n with
  | zero => exact ⟨Nat.le_refl _, fun _ i hi => absurd hi (Nat.not_lt_zero i)⟩
  | succ n ih =>
    obtain ⟨h1, h2⟩ := ih (fun i hi => hs i (by omega))
    have h3 := hs n (by omega)
    rw [kpc, kpc]
    by_cases hb : b.testBit n = true
    · have ha := h3 hb
      simp only [hb, ha, if_true]
      refine ⟨by omega, fun hle i hi => ?_⟩
      by_cases hin : i = n
      · subst hin; rw [ha, hb]
      · exact h2 (by omega) i (by omega)
    · by_cases ha : a.testBit n = true
      · simp only [hb, ha, if_true]
        refine ⟨by simp; omega, fun hle => ?_⟩
        exfalso
        simp at hle
        omega
      · simp only [hb, ha]
        refine ⟨by simpa using h1, fun hle i hi => ?_⟩
        by_cases hin : i = n
        · subst hin; simp at ha hb; rw [ha, hb]
        · exact h2 (by simpa using hle) i (by omega)
theorem kpc_0 {a n : Nat} : kpc a n = 0 ↔ ∀ i, i < n → a.testBit i = false := by
  induction n with
  | zero => exact ⟨fun _ i hi => absurd hi (Nat.not_lt_zero i), fun _ => rfl⟩
  | succ n ih =>
    rw [kpc]
    constructor
    · intro h i hi
      have h1 : kpc a n = 0 := by omega
      by_cases hin : i = n
      · subst hin
        by_cases hb : a.testBit i = true
        · simp [hb] at h
        · simpa using hb
      · exact ih.mp h1 i (by omega)
    · intro h
      rw [ih.mpr (fun i hi => h i (by omega)), h n (by omega)]
      rfl
end
section
/-! who has a log: the class counts, the reference goes round -/
def moB_nx (f : Nat → Bool) : Nat → Nat → Nat
  | 0, m => m
  | k + 1, m => if f (m % 8) then m else moB_nx f k (m + 1)
def moB_s (f : Nat → Bool) : Nat → Nat
  | 0 => 0
  | k + 1 => moB_nx f 8 (moB_s f k) + 1
def moB (f : Nat → Bool) (k : Nat) : Nat := moB_nx f 8 (moB_s f k) % 8
theorem moB_nx_eq {me : Nat → Int32} {f : Nat → Bool} (h : ∀ i, i < 8 → (me i = 0 ↔ f i = false)) (k m : Nat) : mo_nx me k m = moB_nx f k m := by
  induction k generalizing m with
  | zero => rfl
  | succ k ih =>
    rw [mo_nx, moB_nx]
    have h1 := h (m % 8) (Nat.mod_lt _ (by decide))
    by_cases hf : f (m % 8) = true
    · have h2 : ¬ me (m % 8) = 0 := fun z => by rw [h1.mp z] at hf; cases hf
      rw [if_neg h2, if_pos hf]
    · have h2 : f (m % 8) = false := by simpa using hf
      rw [if_pos (h1.mpr h2), if_neg hf, ih]
theorem moB_eq {me : Nat → Int32} {f : Nat → Bool} (h : ∀ i, i < 8 → (me i = 0 ↔ f i = false)) (k : Nat) : mo me k = moB f k := by
  have hs : ∀ k, mo_s me k = moB_s f k := by
    intro k
    induction k with
    | zero => rfl
    | succ k ih => rw [mo_s, moB_s, ih, moB_nx_eq h]
  rw [mo, moB, hs, moB_nx_eq h]
def kchk (a q : Nat) : Bool := (List.range 8).all (fun m => !a.testBit m || (decide (q % kpc a 8 = kpc (a % 2 ^ m) 8) == decide (moB a.testBit q = m)))
theorem kchk_all : ((List.range 256).all (fun a => (List.range 8).all (fun q => kchk a q))) = true := by decide +kernel
theorem k_own {a q m : Nat} (ha : a < 256) (hq : q < 8) (hm : m < 8) (hb : a.testBit m = true) : q % kpc a 8 = kpc (a % 2 ^ m) 8 ↔ moB a.testBit q = m := by
  have h1 := List.all_eq_true.mp kchk_all a (List.mem_range.mpr ha)
  have h2 := List.all_eq_true.mp h1 q (List.mem_range.mpr hq)
  have h3 := List.all_eq_true.mp h2 m (List.mem_range.mpr hm)
  rw [hb] at h3
  simp only [Bool.not_true, Bool.false_or, beq_iff_eq] at h3
  constructor
  · intro z; rw [decide_eq_true z] at h3; exact of_decide_eq_true h3.symm
  · intro z; rw [decide_eq_true z] at h3; exact of_decide_eq_true h3
theorem k_low {a m : Nat} (ha : a < 256) (hm : m < 8) : nI a &&& ((1 <<< (nI m &&& 31)) - 1) = nI (a % 2 ^ m) := by
  have : ∀ a : Fin 256, ∀ m : Fin 8, nI a.val &&& ((1 <<< (nI m.val &&& 31)) - 1) = nI (a.val % 2 ^ m.val) := by decide +kernel
  exact this ⟨a, ha⟩ ⟨m, hm⟩
theorem k_rem {q c : Nat} (hq : q < 8) (hc : c < 9) (h0 : c ≠ 0) : nI q - nI q / nI c * nI c = nI (q % c) := by
  have : ∀ q : Fin 8, ∀ c : Fin 9, c.val ≠ 0 → nI q.val - nI q.val / nI c.val * nI c.val = nI (q.val % c.val) := by decide +kernel
  exact this ⟨q, hq⟩ ⟨c, hc⟩ h0
theorem k_gives {x0 x1 x2 x3 x4 : Int32} {x5 me : Nat → Int32} {x6 : Nat → Int64} {q m : Nat} (h2 : x1 = 2) (hs : ks x2) (hme : ∀ i, i < 8 → me i = b01 x2 i) (hq : q < 8) (hm : m < 8) (hb : bt x2 m = true) :
    kg_gives (nI q) (nI m) (x0, x1, x2, x3, x4, x5, x6) = if nI (mo me q) = nI m then 1 else 0 := by
  obtain ⟨a, ha, rfl, hbt⟩ := ks_nat hs
  have hbm : a.testBit m = true := by rw [← hbt]; exact hb
  have h1 : ¬ kg_has (nI a) (nI m) = 0 := by rw [bt_has hm, b01_0, hb]; decide
  have hc0 : kpc a 8 ≠ 0 := fun z => by rw [kpc_0.mp z m hm] at hbm; cases hbm
  have hc8 := kpc_le a 8
  have h3 : ¬ k_bc (nI a) = 0 := by rw [kpc_bc ha]; exact nI_ne0 (by omega) (by omega)
  have hp : a % 2 ^ m < 256 := Nat.lt_of_le_of_lt (Nat.mod_le _ _) ha
  have hpl := kpc_le (a % 2 ^ m) 8
  have hme2 : ∀ i, i < 8 → (me i = 0 ↔ a.testBit i = false) := fun i hi => by rw [hme i hi, b01_0, hbt]
  have hmo : mo me q < 8 := Nat.mod_lt _ (by decide)
  have hql : q % kpc a 8 ≤ q := Nat.mod_le _ _
  unfold kg_gives
  simp only [if_pos h2, if_neg h1, if_neg h3]
  rw [k_low ha hm, kpc_bc ha, kpc_bc hp, k_rem hq (by omega) hc0]
  have key := k_own ha hq hm hbm
  rw [← moB_eq hme2] at key
  have e1 : (nI (q % kpc a 8) = nI (kpc (a % 2 ^ m) 8)) ↔ (nI (mo me q) = nI m) := by
    rw [nI_eq (by omega) (by omega), nI_eq (by omega) (by omega)]; exact key
  by_cases z : nI (mo me q) = nI m
  · rw [if_pos z, if_pos (e1.mpr z)]
  · rw [if_neg z, if_neg (fun y => z (e1.mp y))]
/-! bits one by one from above, and or-ed from below -/
def ksum (f : Nat → Int32) : Nat → Nat
  | 0 => 0
  | k + 1 => ksum f k + (if f k = 0 then 0 else 2 ^ k)
theorem ksum_lt (f : Nat → Int32) (k : Nat) : ksum f k < 2 ^ k := by
  induction k with
  | zero => exact Nat.lt_succ_self 0
  | succ k ih =>
    rw [ksum, Nat.pow_succ]
    split <;> omega
theorem k_or {s k : Nat} (hk : k < 8) (hs : s < 2 ^ k) : nI s ||| (1 <<< (nI k &&& 31)) = nI (s + 2 ^ k) := by
  have : ∀ k : Fin 8, ∀ s : Fin 256, s.val < 2 ^ k.val → nI s.val ||| (1 <<< (nI k.val &&& 31)) = nI (s.val + 2 ^ k.val) := by decide +kernel
  have h8 : (2 : Nat) ^ k ≤ 2 ^ 8 := Nat.pow_le_pow_right (by decide) (by omega)
  exact this ⟨k, hk⟩ ⟨s, by omega⟩ hs
theorem mbd_sum {f : Nat → Int32} {n : Nat} (h : ∀ i, i < n → f i = 0 ∨ f i = 1) (c : Nat) : mbd f n (nI c) = nI (c * 2 ^ n + ksum f n) := by
  induction n generalizing c with
  | zero => rw [mbd, ksum]; simp
  | succ n ih =>
    rw [mbd, ksum]
    have e2 : (2 : Int32) * nI c = nI (2 * c) := by rw [show (2 : Int32) = nI 2 from rfl]; exact (Int32.ofNat_mul 2 c).symm
    rcases h n (by omega) with h1 | h1
    · rw [h1, if_pos rfl, e2, show nI (2 * c) + 0 = nI (2 * c) from Int32.add_zero _, ih (fun i hi => h i (by omega))]
      congr 1
      rw [Nat.pow_succ, Nat.mul_comm 2 c, Nat.mul_assoc, Nat.mul_comm 2]
      rfl
    · rw [h1, if_neg (by decide), e2, nI_1, ih (fun i hi => h i (by omega))]
      congr 1
      rw [Nat.pow_succ, Nat.add_mul, Nat.mul_comm 2 c, Nat.mul_assoc, Nat.mul_comm 2]
      omega
theorem mbd_bits {a : Nat} (ha : a < 256) : mbd (kba a) 8 0 = nI a := by
  have : ∀ a : Fin 256, mbd (kba a.val) 8 0 = nI a.val := by decide +kernel
  exact this ⟨a, ha⟩
theorem mbd_congr {f g : Nat → Int32} {n : Nat} (h : ∀ i, i < n → f i = g i) (b : Int32) : mbd f n b = mbd g n b := by
  induction n generalizing b with
  | zero => rfl
  | succ n ih => rw [mbd, mbd, h n (by omega), ih (fun i hi => h i (by omega))]
theorem k_sh {m : Int32} {g : kGV} {f : Nat → Int32} {n : Nat} (hn : n ≤ 8) (h : ∀ i, i < n → kg_gives (nI i) m g = f i) : kg_sh m g n = nI (ksum f n) := by
  induction n with
  | zero => rfl
  | succ n ih =>
    rw [kg_sh, ksum, ih (by omega) (fun i hi => h i (by omega)), h n (by omega)]
    by_cases z : f n = 0
    · rw [if_pos z, if_pos z]; rfl
    · rw [if_neg z, if_neg z, k_or (by omega) (ksum_lt f n)]
end
section
/-! a group of the class and a group of the reference -/
/-- all but who has joined -/
def kRw : kGV → mGV → Prop
  | (x0, x1, x2, _, x4, x5, x6), (y0, y1, y2, y3, _, y5, y6) => y0 = x1 ∧ y1 = x0 ∧ y2 = x4 ∧ ks x2 ∧ (∀ i, i < 8 → y3 i = b01 x2 i) ∧ (∀ i, i < 8 → y5 i = x5 i) ∧ (∀ i, i < 8 → y6 i = x6 i)
def kRj : kGV → mGV → Prop
  | (_, x1, x2, x3, _, _, _), (_, _, _, _, y4, _, _) => ks x3 ∧ (∀ i, i < 8 → y4 i = b01 x3 i) ∧ (∀ i, i < 8 → bt x3 i = true → bt x2 i = true) ∧ (x1 = 0 ∨ x1 = 1 ∨ x1 = 2) ∧ (x1 = 2 → x3 = x2) ∧ (x1 = 0 → x2 = 0)
def kR (x : kGV) (y : mGV) : Prop := kRw x y ∧ kRj x y
theorem mz_lt {f : Nat → Int32} {n i : Nat} (h : i < n) : mz f n i = 0 := by
  induction n with
  | zero => omega
  | succ n ih =>
    rw [mz]
    by_cases e : i = n
    · subst e; exact pk_us
    · rw [pk_un e]; exact ih (by omega)
theorem mt_lt {f : Nat → Int32} {t : Int32} {n i : Nat} (h : i < n) : mt f t n i = t := by
  induction n with
  | zero => omega
  | succ n ih =>
    rw [mt]
    by_cases e : i = n
    · subst e; exact pk_us
    · rw [pk_un e]; exact ih (by omega)
theorem md_ge {me jo : Nat → Int32} {n i : Nat} (h : n ≤ i) : md me jo n i = me i := by
  induction n with
  | zero => rfl
  | succ n ih =>
    rw [md, pk_un (by omega)]
    exact ih (by omega)
theorem md_lt {me jo : Nat → Int32} {n i : Nat} (h : i < n) : md me jo n i = if me i = 0 then 0 else if jo i = 0 then 0 else 1 := by
  induction n with
  | zero => omega
  | succ n ih =>
    rw [md]
    by_cases e : i = n
    · subst e; rw [pk_us, md_ge (Nat.le_refl i)]
    · rw [pk_un e]; exact ih (by omega)
theorem b01_z (i : Nat) : b01 0 i = 0 := by rw [b01_0]; exact bt_zero i
theorem kR_clear {x : kGV} {y : mGV} (h : kRw x y) : kR (kg_clear x) (mg_emp y) := by
  obtain ⟨x0, x1, x2, x3, x4, x5, x6⟩ := x
  obtain ⟨y0, y1, y2, y3, y4, y5, y6⟩ := y
  obtain ⟨h0, h1, h2, h3, h4, h5, h6⟩ := h
  exact ⟨⟨rfl, h1, h2, ks_0, fun i hi => by rw [mz_lt hi, b01_z], h5, h6⟩, ks_0, fun i hi => by rw [mz_lt hi, b01_z], fun i _ z => (by rw [bt_zero] at z; cases z), Or.inl rfl, fun _ => rfl, fun _ => rfl⟩
theorem kR_mix {x : kGV} {y : mGV} (t : Int32) (h : kRw x y) : kR (kg_mix t x) (mg_mix t y) := by
  obtain ⟨x0, x1, x2, x3, x4, x5, x6⟩ := x
  obtain ⟨y0, y1, y2, y3, y4, y5, y6⟩ := y
  obtain ⟨h0, h1, h2, h3, h4, h5, h6⟩ := h
  exact ⟨⟨rfl, h1, rfl, h3, h4, h5, h6⟩, ks_0, fun i hi => by rw [mz_lt hi, b01_z], fun i _ z => (by rw [bt_zero] at z; cases z), Or.inr (Or.inl rfl), fun z => absurd z (by decide), fun z => absurd z (by decide)⟩
theorem upd_or {f : Nat → Int32} {x : Int32} {q : Nat} (hq : q < 8) (h : ∀ i, i < 8 → f i = b01 x i) : ∀ i, i < 8 → upd f q 1 i = b01 (x ||| kpw q) i := by
  intro i hi
  unfold b01
  rw [bt_or, bt_pw hq]
  by_cases e : i = q
  · subst e; rw [pk_us]; simp
  · rw [pk_un e, h i hi, b01]
    have : ¬ q = i := fun z => e z.symm
    simp [this]
theorem kR_in {x : kGV} {y : mGV} {q : Nat} (t : Int32) (hq : q < 8) (h1 : x.2.1 = 1) (h : kR x y) : kR (kg_in (nI q) t x) (mg_in2 q t (mg_in1 q y)) := by
  obtain ⟨x0, x1, x2, x3, x4, x5, x6⟩ := x
  obtain ⟨y0, y1, y2, y3, y4, y5, y6⟩ := y
  obtain ⟨⟨a0, a1, a2, a3, a4, a5, a6⟩, j0, j1, j2, j3, j4, j5⟩ := h
  have h1 : x1 = 1 := h1
  have hc : (nI q).toNatClampNeg = q := nI_clamp (by omega)
  refine ⟨⟨a0, a1, a2, ks_or a3 (ks_pw hq), upd_or hq a4, fun i hi => ?_, a6⟩, ks_or j0 (ks_pw hq), upd_or hq j1, fun i hi z => ?_, j3, fun z => ?_, fun z => ?_⟩
  · rw [hc]
    by_cases e : i = q
    · subst e; rw [pk_us, pk_us]
    · rw [pk_un e, pk_un e]; exact a5 i hi
  · show bt (x2 ||| kpw q) i = true
    have z : bt (x3 ||| kpw q) i = true := z
    rw [bt_or] at z ⊢
    rcases Bool.or_eq_true _ _ |>.mp z with z | z
    · rw [j2 i hi z]; rfl
    · rw [z]; simp
  · rw [h1] at z; exact absurd z (by decide)
  · rw [h1] at z; exact absurd z (by decide)
theorem kR_take {x : kGV} {y : mGV} {q : Nat} (t : Int32) (hq : q < 8) (h : kR x y) : kR (kg_take (nI q) t x) (mg_take q t y) := by
  have e : y.1 = x.2.1 := by
    obtain ⟨x0, x1, x2, x3, x4, x5, x6⟩ := x
    obtain ⟨y0, y1, y2, y3, y4, y5, y6⟩ := y
    exact h.1.1
  unfold kg_take mg_take
  rw [e]
  by_cases z : x.2.1 = 1
  · rw [if_pos z, if_pos z]; exact kR_in t hq z h
  · rw [if_neg z, if_neg z]
    have h1 := kR_in (q := q) t hq (x := kg_mix t x) (y := mg_mix t y) (by obtain ⟨x0, x1, x2, x3, x4, x5, x6⟩ := x; rfl) (kR_mix t h.1)
    obtain ⟨y0, y1, y2, y3, y4, y5, y6⟩ := y
    exact h1
theorem upd_rid {f : Nat → Int32} {x : Int32} {q : Nat} (hq : q < 8) (h : ∀ i, i < 8 → f i = b01 x i) : ∀ i, i < 8 → upd f q 0 i = b01 (x &&& (kpw q ^^^ (-1))) i := by
  intro i hi
  unfold b01
  rw [bt_and, bt_xor, bt_pw hq, bt_m1 (by omega)]
  by_cases e : i = q
  · subst e; rw [pk_us]; simp
  · rw [pk_un e, h i hi, b01]
    have : ¬ q = i := fun z => e z.symm
    simp [this]
theorem kR_rid {x : kGV} {y : mGV} {q : Nat} (hq : q < 8) (h : kR x y) : kR (kg_rid (kpw q) x) (mg_rid q y) := by
  obtain ⟨x0, x1, x2, x3, x4, x5, x6⟩ := x
  obtain ⟨y0, y1, y2, y3, y4, y5, y6⟩ := y
  obtain ⟨⟨a0, a1, a2, a3, a4, a5, a6⟩, j0, j1, j2, j3, j4, j5⟩ := h
  refine ⟨⟨a0, a1, a2, ks_and a3, upd_rid hq a4, a5, a6⟩, ks_and j0, upd_rid hq j1, fun i hi z => ?_, j3, fun z => ?_, fun z => ?_⟩
  · rw [bt_and] at z ⊢
    have z := (Bool.and_eq_true _ _).mp z
    rw [j2 i hi z.1, z.2]; rfl
  · rw [j4 z]
  · show x2 &&& (kpw q ^^^ (-1)) = 0
    rw [j5 z, Int32.zero_and]
theorem cnt_0 {me : Nat → Int32} {x : Int32} (hs : ks x) (h : ∀ i, i < 8 → me i = b01 x i) : mg_cnt me 8 = 0 ↔ x = 0 := by
  obtain ⟨a, ha, rfl, hb⟩ := ks_nat hs
  rw [cnt_congr (g := kba a) (fun i hi => by rw [h i hi, bt_nat hb]), kpc_cnt]
  have h8 := kpc_le a 8
  rw [show (0 : Int32) = nI 0 from rfl, nI_eq (by omega) (by omega), nI_eq (by omega) (by omega), kpc_0]
  constructor
  · intro z
    apply Nat.eq_of_testBit_eq
    intro i
    rw [Nat.zero_testBit]
    by_cases hi : i < 8
    · exact z i hi
    · rw [← hb]; exact hs i (by omega)
  · intro z i _
    rw [z, Nat.zero_testBit]
theorem cnt_le {me jo : Nat → Int32} {x z : Int32} (hx : ks x) (hz : ks z) (h : ∀ i, i < 8 → me i = b01 x i) (h' : ∀ i, i < 8 → jo i = b01 z i) (hs : ∀ i, i < 8 → bt z i = true → bt x i = true) : (mg_cnt me 8 ≤ mg_jn me jo 8 ↔ z = x) ∧ (mg_jn me jo 8 = 0 ↔ z = 0) := by
  obtain ⟨a, ha, rfl, hb⟩ := ks_nat hx
  obtain ⟨b, hb8, rfl, hbb⟩ := ks_nat hz
  have hsub : ∀ i, i < 8 → b.testBit i = true → a.testBit i = true := fun i hi w => by rw [← hb]; exact hs i hi (by rw [hbb]; exact w)
  rw [cnt_congr (g := kba a) (fun i hi => by rw [h i hi, bt_nat hb]), kpc_cnt, jn_congr (g := kba a) (g' := kba b) (fun i hi => by rw [h i hi, bt_nat hb]) (fun i hi => by rw [h' i hi, bt_nat hbb]), kpc_jn hsub (Nat.le_refl 8)]
  have ha8 := kpc_le a 8
  have hb8' := kpc_le b 8
  constructor
  · rw [nI_leI (by omega) (by omega), nI_eq (by omega) (by omega)]
    constructor
    · intro w
      apply Nat.eq_of_testBit_eq
      intro i
      by_cases hi : i < 8
      · exact ((kpc_lt hsub).2 w i hi).symm
      · rw [← hb, ← hbb, hx i (by omega), hz i (by omega)]
    · intro w; rw [w]; exact Nat.le_refl _
  · rw [show (0 : Int32) = nI 0 from rfl, nI_eq (by omega) (by omega), nI_eq (by omega) (by omega), kpc_0]
    constructor
    · intro w
      apply Nat.eq_of_testBit_eq
      intro i
      rw [Nat.zero_testBit]
      by_cases hi : i < 8
      · exact w i hi
      · rw [← hbb]; exact hz i (by omega)
    · intro w i _
      rw [w, Nat.zero_testBit]
/-- put out: the members without z, whoever has joined -/
theorem kR_out {x : kGV} {y : mGV} (z t : Int32) (h : kRw (kg_rid z x) y) (hj : x.2.1 = 2 ∨ kR (kg_rid z x) y) : kR (kg_out z t x) (mg_wo t y) := by
  have e : y.1 = x.2.1 ∧ (mg_cnt y.2.2.2.1 8 = 0 ↔ (kg_rid z x).2.2.1 = 0) := by
    obtain ⟨x0, x1, x2, x3, x4, x5, x6⟩ := x
    obtain ⟨y0, y1, y2, y3, y4, y5, y6⟩ := y
    exact ⟨h.1, cnt_0 h.2.2.2.1 h.2.2.2.2.1⟩
  unfold kg_out mg_wo
  by_cases w : (kg_rid z x).2.2.1 = 0
  · rw [if_pos w, if_pos (e.2.mpr w)]; exact kR_clear h
  · rw [if_neg w, if_neg (fun q => w (e.2.mp q)), e.1]
    by_cases v : x.2.1 = 2
    · rw [if_pos v, if_pos v]; exact kR_mix t h
    · rw [if_neg v, if_neg v]; exact hj.resolve_left v
theorem kR_set {x : kGV} {y : mGV} (t : Int32) (h : kR x y) (hz : x.2.2.2.1 ≠ 0) : kR (kg_settle t x) (mg_set t y) := by
  obtain ⟨x0, x1, x2, x3, x4, x5, x6⟩ := x
  obtain ⟨y0, y1, y2, y3, y4, y5, y6⟩ := y
  obtain ⟨⟨a0, a1, a2, a3, a4, a5, a6⟩, j0, j1, j2, j3, j4, j5⟩ := h
  refine ⟨⟨rfl, by show y1 + 1 = x0 + 1; rw [a1], a2, j0, fun i hi => ?_, fun i hi => mt_lt hi, a6⟩, j0, j1, fun i _ w => w, Or.inr (Or.inr rfl), fun _ => rfl, fun w => absurd w (by decide)⟩
  rw [md_lt hi, a4 i hi, j1 i hi]
  unfold b01
  by_cases w : bt x3 i = true
  · rw [j2 i hi w, w]; rfl
  · have w : bt x3 i = false := by simpa using w
    rw [w]
    by_cases v : bt x2 i = true
    · rw [v]; rfl
    · have v : bt x2 i = false := by simpa using v
      rw [v]; rfl
theorem kn_take {lf : Int32} (wr : Int32) (h : ¬ lf < 0) : kn_write lf wr = mn_take lf wr ∧ ¬ (mn_take lf wr).2.1 < 0 := by
  obtain ⟨n, hn, rfl⟩ := nI_of h
  unfold kn_write mn_take
  by_cases z : n = 0
  · subst z
    have h1 : ¬ (1 : Int32) ≤ nI 0 := by decide
    have h2 : nI 0 = 0 := by decide
    rw [if_neg h1, if_pos h2]
    exact ⟨rfl, h⟩
  · have h1 : (1 : Int32) ≤ nI n := by rw [show (1 : Int32) = nI 1 from rfl]; exact nI_le (by omega) hn
    have h2 : ¬ nI n = 0 := nI_ne0 (by omega) hn
    rw [if_pos h1, if_neg h2]
    refine ⟨rfl, ?_⟩
    show ¬ nI n - 1 < 0
    obtain ⟨k, rfl⟩ : ∃ k, n = k + 1 := ⟨n - 1, by omega⟩
    rw [nI_pred]
    exact nI_pos (by omega)
theorem kR_go {x : kGV} {y : mGV} (t lf wr : Int32) (hl : ¬ lf < 0) (h : kR x y) : kR (kg_go t lf wr x).1 (mg_go t lf wr y).1 ∧ (kg_go t lf wr x).2 = (mg_go t lf wr y).2 ∧ ¬ (mg_go t lf wr y).2.1 < 0 := by
  obtain ⟨e1, e2⟩ := kn_take wr hl
  have e : mg_jn y.2.2.2.1 y.2.2.2.2.1 8 = 0 ↔ x.2.2.2.1 = 0 := by
    obtain ⟨x0, x1, x2, x3, x4, x5, x6⟩ := x
    obtain ⟨y0, y1, y2, y3, y4, y5, y6⟩ := y
    obtain ⟨⟨a0, a1, a2, a3, a4, a5, a6⟩, j0, j1, j2, j3, j4, j5⟩ := h
    exact (cnt_le a3 j0 a4 j1 j2).2
  unfold kg_go mg_go
  rw [e1]
  by_cases w : x.2.2.2.1 = 0
  · rw [if_pos w, if_pos (e.mpr w)]; exact ⟨kR_clear h.1, rfl, hl⟩
  · rw [if_neg w, if_neg (fun q => w (e.mp q))]
    by_cases v : (mn_take lf wr).1 = 0
    · rw [if_pos v, if_pos v]; exact ⟨h, rfl, e2⟩
    · rw [if_neg v, if_neg v]; exact ⟨kR_set t h w, rfl, e2⟩
theorem kR_fin {x : kGV} {y : mGV} (t lf wr : Int32) (hl : ¬ lf < 0) (h : kR x y) : kR (kg_fin t lf wr x).1 (mg_done t lf wr y).1 ∧ (kg_fin t lf wr x).2 = (mg_done t lf wr y).2 ∧ ¬ (mg_done t lf wr y).2.1 < 0 := by
  have e : y.1 = x.2.1 ∧ y.2.2.1 = x.2.2.2.2.1 ∧ (mg_cnt y.2.2.2.1 8 ≤ mg_jn y.2.2.2.1 y.2.2.2.2.1 8 ↔ x.2.2.2.1 = x.2.2.1) := by
    obtain ⟨x0, x1, x2, x3, x4, x5, x6⟩ := x
    obtain ⟨y0, y1, y2, y3, y4, y5, y6⟩ := y
    obtain ⟨⟨a0, a1, a2, a3, a4, a5, a6⟩, j0, j1, j2, j3, j4, j5⟩ := h
    exact ⟨a0, a2, (cnt_le a3 j0 a4 j1 j2).1⟩
  unfold kg_fin mg_done
  rw [e.1, e.2.1]
  by_cases w : x.2.1 = 1
  · rw [if_pos w, if_pos w]
    by_cases v : x.2.2.2.1 = x.2.2.1
    · rw [if_pos v, if_pos (e.2.2.mpr v)]; exact kR_go t lf wr hl h
    · rw [if_neg v, if_neg (fun q => v (e.2.2.mp q))]
      by_cases u : x.2.2.2.2.1 ≤ t
      · rw [if_pos u, if_pos u]; exact kR_go t lf wr hl h
      · rw [if_neg u, if_neg u]; exact ⟨h, rfl, hl⟩
  · rw [if_neg w, if_neg w]; exact ⟨h, rfl, hl⟩
/-! who is silent -/
def kq (x2 t : Int32) (x5 : Nat → Int32) (i : Nat) : Bool := bt x2 i && !decide (t - x5 i < 30)
theorem sil_bt {x2 t : Int32} {x5 : Nat → Int32} {n : Nat} (hn : n ≤ 8) (i : Nat) : bt (kg_sil x2 t x5 n) i = (decide (i < n) && kq x2 t x5 i) := by
  induction n with
  | zero => rw [kg_sil, bt_zero]; simp
  | succ n ih =>
    rw [kg_sil, bt_has (by omega)]
    have ih := ih (by omega)
    by_cases h1 : b01 x2 n = 0
    · rw [if_pos h1, ih]
      by_cases e : i = n
      · subst e; simp [kq, b01_0.mp h1]
      · have : (i < n + 1) ↔ (i < n) := by omega
        simp [this]
    · rw [if_neg h1]
      have hb : bt x2 n = true := by
        by_cases z : bt x2 n = true
        · exact z
        · exact absurd (b01_0.mpr (by simpa using z)) h1
      by_cases h2 : t - x5 n < 30
      · rw [if_pos h2, ih]
        by_cases e : i = n
        · subst e; simp [kq, h2]
        · have : (i < n + 1) ↔ (i < n) := by omega
          simp [this]
      · rw [if_neg h2, bt_or, ih, show (1 : Int32) <<< (nI n &&& 31) = kpw n from rfl, bt_pw (by omega)]
        by_cases e : i = n
        · subst e; simp [kq, h2, hb]
        · have h3 : (i < n + 1) ↔ (i < n) := by omega
          have h4 : ¬ n = i := fun z => e z.symm
          simp [h3, h4]
theorem mtk_at {me he x5 : Nat → Int32} {t x2 : Int32} (hme : ∀ i, i < 8 → me i = b01 x2 i) (hhe : ∀ i, i < 8 → he i = x5 i) {n : Nat} (hn : n ≤ 8) : (∀ i, i < 8 → (mtk me he t n).1 i = if (decide (i < n) && kq x2 t x5 i) = true then 0 else me i) ∧ ((mtk me he t n).2 = 0 ↔ ∀ i, i < n → kq x2 t x5 i = false) ∧ ((mtk me he t n).2 = 0 ∨ (mtk me he t n).2 = 1) := by
  induction n with
  | zero => exact ⟨fun i hi => by simp [mtk], ⟨fun _ i hi => absurd hi (Nat.not_lt_zero i), fun _ => rfl⟩, Or.inl rfl⟩
  | succ n ih =>
    obtain ⟨h1, h2, h3⟩ := ih (by omega)
    have hn8 : n < 8 := by omega
    have hat : (mtk me he t n).1 n = b01 x2 n := by rw [h1 n hn8, ← hme n hn8]; simp
    rw [mtk, hat, hhe n hn8]
    have hno : kq x2 t x5 n = false → (∀ i, i < 8 → (mtk me he t n).1 i = if (decide (i < n + 1) && kq x2 t x5 i) = true then 0 else me i) ∧ ((mtk me he t n).2 = 0 ↔ ∀ i, i < n + 1 → kq x2 t x5 i = false) ∧ ((mtk me he t n).2 = 0 ∨ (mtk me he t n).2 = 1) := by
      intro hk
      refine ⟨fun i hi => ?_, ?_, h3⟩
      · rw [h1 i hi]
        by_cases e : i = n
        · subst e; simp [hk]
        · have : (i < n + 1) ↔ (i < n) := by omega
          simp [this]
      · rw [h2]
        constructor
        · intro z i hi
          by_cases e : i = n
          · subst e; exact hk
          · exact z i (by omega)
        · intro z i hi
          exact z i (by omega)
    by_cases c1 : b01 x2 n = 0
    · rw [if_pos c1]
      exact hno (by simp [kq, b01_0.mp c1])
    · rw [if_neg c1]
      have hb : bt x2 n = true := by
        by_cases z : bt x2 n = true
        · exact z
        · exact absurd (b01_0.mpr (by simpa using z)) c1
      by_cases c2 : t - x5 n < 30
      · rw [if_pos c2]
        exact hno (by simp [kq, c2])
      · rw [if_neg c2]
        have hk : kq x2 t x5 n = true := by simp [kq, hb, c2]
        refine ⟨fun i hi => ?_, ?_, Or.inr rfl⟩
        · by_cases e : i = n
          · subst e
            show upd (mtk me he t i).1 i 0 i = _
            rw [pk_us]; simp [hk]
          · show upd (mtk me he t n).1 n 0 i = _
            rw [pk_un e, h1 i hi]
            have : (i < n + 1) ↔ (i < n) := by omega
            simp [this]
        · constructor
          · intro z; exact absurd z (show ¬ (1 : Int32) = 0 by decide)
          · intro z
            have := z n (by omega)
            rw [hk] at this; cases this
theorem kR_drop {x : kGV} {y : mGV} (t : Int32) (h : kR x y) : kR (kg_drop t x) (mg_tk t y) := by
  obtain ⟨x0, x1, x2, x3, x4, x5, x6⟩ := x
  obtain ⟨y0, y1, y2, y3, y4, y5, y6⟩ := y
  have hh := h
  obtain ⟨⟨a0, a1, a2, a3, a4, a5, a6⟩, j0, j1, j2, j3, j4, j5⟩ := h
  obtain ⟨m1, m2, m3⟩ := mtk_at (t := t) a4 a5 (Nat.le_refl 8)
  have hs : kg_sil x2 t x5 8 = 0 ↔ ∀ i, i < 8 → kq x2 t x5 i = false := by
    constructor
    · intro z i hi
      have h1 := sil_bt (x2 := x2) (t := t) (x5 := x5) (Nat.le_refl 8) i
      rw [z, bt_zero] at h1
      simpa [hi] using h1.symm
    · intro z
      apply bt_ext
      intro i _
      rw [sil_bt (Nat.le_refl 8), bt_zero]
      by_cases hi : i < 8
      · simp [z i hi]
      · simp [hi]
  have e0 : y0 = x1 := a0
  unfold kg_drop
  show kR (if x1 = 2 then _ else _) (if y0 = 2 then _ else _)
  rw [e0]
  by_cases w : x1 = 2
  · rw [if_pos w, if_pos w]
    by_cases v : kg_sil x2 t x5 8 = 0
    · have v1 := hs.mp v
      show kR (if kg_sil x2 t x5 8 = 0 then _ else _) _
      rw [if_pos v, if_pos (m2.mpr v1)]
      refine ⟨⟨rfl, a1, a2, a3, fun i hi => ?_, a5, a6⟩, j0, j1, j2, j3, j4, j5⟩
      rw [m1 i hi, v1 i hi]
      simpa using a4 i hi
    · show kR (if kg_sil x2 t x5 8 = 0 then _ else _) _
      rw [if_neg v, if_neg (fun q => v (hs.mpr (m2.mp q)))]
      refine kR_out _ t ?_ (Or.inl w)
      refine ⟨rfl, a1, a2, ks_and a3, fun i hi => ?_, a5, a6⟩
      rw [m1 i hi, a4 i hi]
      unfold b01
      rw [bt_and, bt_xor, bt_m1 (by omega), sil_bt (Nat.le_refl 8)]
      have hd : decide (i < 8) = true := decide_eq_true hi
      rw [hd]
      by_cases q : kq x2 t x5 i = true
      · simp [q]
      · have q : kq x2 t x5 i = false := by simpa using q
        simp [q]
  · rw [if_neg w, if_neg w]
    exact ⟨⟨rfl, a1, a2, a3, a4, a5, a6⟩, j0, j1, j2, j3, j4, j5⟩
end
section
/-! limits stay small -/
def kL (x : kGV) : Prop := 0 ≤ x.2.2.2.2.1.toInt ∧ x.2.2.2.2.1.toInt ≤ 1000020
def kT (t : Int32) : Prop := 0 ≤ t.toInt ∧ t.toInt ≤ 1000000
theorem kT_20 {t : Int32} (h : kT t) : (t + 20).toInt = t.toInt + 20 := by
  obtain ⟨h1, h2⟩ := h
  rw [Int32.toInt_add, show (20 : Int32).toInt = 20 from rfl]
  exact Int.bmod_eq_of_le (by omega) (by omega)
theorem kL_clear {x : kGV} (h : kL x) : kL (kg_clear x) := by obtain ⟨x0, x1, x2, x3, x4, x5, x6⟩ := x; exact h
theorem kL_mix {x : kGV} {t : Int32} (ht : kT t) : kL (kg_mix t x) := by
  obtain ⟨x0, x1, x2, x3, x4, x5, x6⟩ := x
  show 0 ≤ (t + 20).toInt ∧ (t + 20).toInt ≤ 1000020
  rw [kT_20 ht]
  obtain ⟨h1, h2⟩ := ht
  omega
theorem kL_in {x : kGV} {m t : Int32} (h : kL x) : kL (kg_in m t x) := by obtain ⟨x0, x1, x2, x3, x4, x5, x6⟩ := x; exact h
theorem kL_take {x : kGV} {m t : Int32} (ht : kT t) (h : kL x) : kL (kg_take m t x) := by
  unfold kg_take
  split
  · exact kL_in h
  · exact kL_in (kL_mix ht)
theorem kL_rid {x : kGV} {z : Int32} (h : kL x) : kL (kg_rid z x) := by obtain ⟨x0, x1, x2, x3, x4, x5, x6⟩ := x; exact h
theorem kL_out {x : kGV} {z t : Int32} (ht : kT t) (h : kL x) : kL (kg_out z t x) := by
  unfold kg_out
  split
  · exact kL_clear (kL_rid h)
  · split
    · exact kL_mix ht
    · exact kL_rid h
theorem kL_set {x : kGV} {t : Int32} (h : kL x) : kL (kg_settle t x) := by obtain ⟨x0, x1, x2, x3, x4, x5, x6⟩ := x; exact h
theorem kL_go {x : kGV} {t lf wr : Int32} (h : kL x) : kL (kg_go t lf wr x).1 := by
  unfold kg_go
  split
  · exact kL_clear h
  · split
    · exact h
    · exact kL_set h
theorem kL_fin {x : kGV} {t lf wr : Int32} (h : kL x) : kL (kg_fin t lf wr x).1 := by
  unfold kg_fin
  split
  · split
    · exact kL_go h
    · split
      · exact kL_go h
      · exact h
  · exact h
theorem kL_drop {x : kGV} {t : Int32} (ht : kT t) (h : kL x) : kL (kg_drop t x) := by
  unfold kg_drop
  split
  · split
    · exact h
    · exact kL_out ht h
  · exact h
theorem kL_hear {x : kGV} {b t : Int32} (h : kL x) : kL (kg_hear b t x) := by obtain ⟨x0, x1, x2, x3, x4, x5, x6⟩ := x; exact h
theorem kL_off {x : kGV} {q : Int32} {v : Int64} (h : kL x) : kL (kg_off q v x) := by obtain ⟨x0, x1, x2, x3, x4, x5, x6⟩ := x; exact h
/-! the desk and the reference -/
def kRG (G : Nat → kGV) (M : Nat → mGV) : Prop := ∀ g, g < 8 → kR (G g) (M g) ∧ kL (G g)
def kRel : kDV → mDV → Prop
  | (lg, tm, lf, wr, G), (_, lg', tm', rm, no, M) => lg' = lg ∧ tm' = tm ∧ rm = lf ∧ no = wr ∧ ¬ lf < 0 ∧ (∃ n : Nat, n ≤ 8 ∧ lg = nI n) ∧ kT tm ∧ kRG G M
theorem kRG_up {G : Nat → kGV} {M : Nat → mGV} {a : Nat} {x : kGV} {y : mGV} (h : kRG G M) (hx : kR x y) (hL : kL x) : kRG (va_up G a x) (va_up M a y) := by
  intro g hg
  by_cases e : g = a
  · subst e; rw [va_up_self, va_up_self]; exact ⟨hx, hL⟩
  · rw [va_up_ne _ _ e, va_up_ne _ _ e]; exact h g hg
theorem kR_st {x : kGV} {y : mGV} (h : kR x y) : y.1 = x.2.1 ∧ y.2.1 = x.1 ∧ y.2.2.1 = x.2.2.2.2.1 := by
  obtain ⟨x0, x1, x2, x3, x4, x5, x6⟩ := x
  obtain ⟨y0, y1, y2, y3, y4, y5, y6⟩ := y
  exact ⟨h.1.1, h.1.2.1, h.1.2.2.1⟩
theorem kR_me {x : kGV} {y : mGV} (h : kR x y) {b : Nat} (hb : b < 8) : kg_has x.2.2.1 (nI b) = y.2.2.2.1 b := by
  obtain ⟨x0, x1, x2, x3, x4, x5, x6⟩ := x
  obtain ⟨y0, y1, y2, y3, y4, y5, y6⟩ := y
  rw [bt_has hb]
  exact (h.1.2.2.2.2.1 b hb).symm
theorem kR_hear {x : kGV} {y : mGV} {b : Nat} (t : Int32) (hb : b < 8) (h : kR x y) : kR (kg_hear (nI b) t x) (mg_hear b t y) := by
  obtain ⟨x0, x1, x2, x3, x4, x5, x6⟩ := x
  obtain ⟨y0, y1, y2, y3, y4, y5, y6⟩ := y
  obtain ⟨⟨a0, a1, a2, a3, a4, a5, a6⟩, hj⟩ := h
  have hc : (nI b).toNatClampNeg = b := nI_clamp (by omega)
  refine ⟨⟨a0, a1, a2, a3, a4, fun i hi => ?_, a6⟩, hj⟩
  rw [hc]
  by_cases e : i = b
  · subst e; rw [pk_us, pk_us]
  · rw [pk_un e, pk_un e]; exact a5 i hi
theorem kR_off {x : kGV} {y : mGV} {q : Nat} (v : Int64) (hq : q < 8) (h : kR x y) : kR (kg_off (nI q) v x) (mg_off q v y) := by
  obtain ⟨x0, x1, x2, x3, x4, x5, x6⟩ := x
  obtain ⟨y0, y1, y2, y3, y4, y5, y6⟩ := y
  obtain ⟨⟨a0, a1, a2, a3, a4, a5, a6⟩, hj⟩ := h
  have hc : (nI q).toNatClampNeg = q := nI_clamp (by omega)
  refine ⟨⟨a0, a1, a2, a3, a4, a5, fun i hi => ?_⟩, hj⟩
  rw [hc]
  by_cases e : i = q
  · subst e; rw [pk_uLs, pk_uLs]
  · rw [pk_uLn e, pk_uLn e]; exact a6 i hi
section KRA
variable {v : kDV} {u : mDV} {p0 p1 p2 p3 : Int32} {p4 : Int64}
theorem rel_join (h : kRel v u) (h0 : vp_in p0 8) (h1 : vp_in p1 8) : (kd_join p0 p1 v).1 = (md_join p0.toNatClampNeg p1.toNatClampNeg u).1 ∧ kRel (kd_join p0 p1 v).2 (md_join p0.toNatClampNeg p1.toNatClampNeg u).2 ∧ (md_join p0.toNatClampNeg p1.toNatClampNeg u).2.1 = 0 := by
  obtain ⟨lg, tm, lf, wr, G⟩ := v
  obtain ⟨co, lg', tm', rm, no, M⟩ := u
  obtain ⟨rfl, rfl, rfl, rfl, hl, hn, ht, hG⟩ := h
  obtain ⟨a, ha, rfl⟩ := vp_in_of h0 (by decide)
  obtain ⟨b, hb, rfl⟩ := vp_in_of h1 (by decide)
  have hca : (nI a).toNatClampNeg = a := nI_clamp (by omega)
  have hcb : (nI b).toNatClampNeg = b := nI_clamp (by omega)
  rw [hca, hcb]
  have hf := kR_fin tm' rm no hl (kR_take tm' hb (hG a ha).1)
  obtain ⟨f1, f2, f3⟩ := hf
  have s := kR_st f1
  simp only [kd_join, md_join, hca]
  refine ⟨?_, ⟨rfl, rfl, ?_, ?_, ?_, hn, ht, kRG_up hG f1 (kL_fin (kL_take ht (hG a ha).2))⟩, trivial⟩
  · rw [s.1, s.2.1]
  · rw [f2]
  · rw [f2]
  · rw [f2]; exact f3
theorem rel_leave (h : kRel v u) (h0 : vp_in p0 8) (h1 : vp_in p1 8) : (kd_leave p0 p1 v).1 = (md_leave p0.toNatClampNeg p1.toNatClampNeg u).1 ∧ kRel (kd_leave p0 p1 v).2 (md_leave p0.toNatClampNeg p1.toNatClampNeg u).2 ∧ (md_leave p0.toNatClampNeg p1.toNatClampNeg u).2.1 = 0 := by
  obtain ⟨lg, tm, lf, wr, G⟩ := v
  obtain ⟨co, lg', tm', rm, no, M⟩ := u
  obtain ⟨rfl, rfl, rfl, rfl, hl, hn, ht, hG⟩ := h
  obtain ⟨a, ha, rfl⟩ := vp_in_of h0 (by decide)
  obtain ⟨b, hb, rfl⟩ := vp_in_of h1 (by decide)
  have hca : (nI a).toNatClampNeg = a := nI_clamp (by omega)
  have hcb : (nI b).toNatClampNeg = b := nI_clamp (by omega)
  rw [hca, hcb]
  simp only [kd_leave, md_leave, hca, kR_me (hG a ha).1 hb]
  by_cases w : (M a).2.2.2.1 b = 0
  · rw [if_pos w, if_pos w]
    exact ⟨rfl, ⟨rfl, rfl, rfl, rfl, hl, hn, ht, hG⟩, rfl⟩
  · rw [if_neg w, if_neg w]
    have hr := kR_rid hb (hG a ha).1
    obtain ⟨f1, f2, f3⟩ := kR_fin tm' rm no hl (kR_out (1 <<< (nI b &&& 31)) tm' hr.1 (Or.inr hr))
    refine ⟨rfl, ⟨rfl, rfl, ?_, ?_, ?_, hn, ht, kRG_up hG f1 (kL_fin (kL_out ht (hG a ha).2))⟩, rfl⟩
    · rw [f2]
    · rw [f2]
    · rw [f2]; exact f3
theorem rel_beat (h : kRel v u) (h0 : vp_in p0 8) (h1 : vp_in p1 8) : (kd_beat p0 p1 p2 v).1 = (md_beat p0.toNatClampNeg p1.toNatClampNeg p2 u).1 ∧ kRel (kd_beat p0 p1 p2 v).2 (md_beat p0.toNatClampNeg p1.toNatClampNeg p2 u).2 ∧ (md_beat p0.toNatClampNeg p1.toNatClampNeg p2 u).2.1 = 0 := by
  obtain ⟨lg, tm, lf, wr, G⟩ := v
  obtain ⟨co, lg', tm', rm, no, M⟩ := u
  obtain ⟨rfl, rfl, rfl, rfl, hl, hn, ht, hG⟩ := h
  obtain ⟨a, ha, rfl⟩ := vp_in_of h0 (by decide)
  obtain ⟨b, hb, rfl⟩ := vp_in_of h1 (by decide)
  have hca : (nI a).toNatClampNeg = a := nI_clamp (by omega)
  have hcb : (nI b).toNatClampNeg = b := nI_clamp (by omega)
  rw [hca, hcb]
  simp only [kd_beat, md_beat, hca, kR_me (hG a ha).1 hb, (kR_st (hG a ha).1).2.1]
  by_cases w : (M a).2.2.2.1 b = 0
  · rw [if_pos w, if_pos w]
    exact ⟨rfl, ⟨rfl, rfl, rfl, rfl, hl, hn, ht, hG⟩, rfl⟩
  · rw [if_neg w, if_neg w]
    by_cases n : p2 = (G a).1
    · rw [if_pos n, if_pos n]
      refine ⟨?_, ⟨rfl, rfl, rfl, rfl, hl, hn, ht, kRG_up hG (kR_hear tm' hb (hG a ha).1) (kL_hear (hG a ha).2)⟩, rfl⟩
      have hR := (hG a ha).1
      generalize G a = x at hR w n ⊢
      generalize M a = y at hR w ⊢
      obtain ⟨x0, x1, x2, x3, x4, x5, x6⟩ := x
      obtain ⟨y0, y1, y2, y3, y4, y5, y6⟩ := y
      obtain ⟨⟨a0, a1, a2, a3, a4, a5, a6⟩, j0, j1, j2, j3, j4, j5⟩ := hR
      show (if kg_has x3 (nI b) = 0 then (1 : Int32) else 0) = if y0 = 1 then (if y4 b = 0 then 1 else 0) else 0
      have w : ¬ y3 b = 0 := w
      rw [bt_has hb, j1 b hb, a0]
      rcases j3 with z | z | z
      · exfalso
        rw [a4 b hb, j5 z, b01_z] at w
        exact w rfl
      · rw [if_pos z]
      · rw [if_neg (show ¬ x1 = 1 by rw [z]; decide), j4 z, ← a4 b hb, if_neg w]
    · rw [if_neg n, if_neg n]
      exact ⟨rfl, ⟨rfl, rfl, rfl, rfl, hl, hn, ht, hG⟩, rfl⟩
theorem rel_commit (h : kRel v u) (h0 : vp_in p0 8) (h1 : vp_in p1 8) (h3 : ¬ p3 < 0 ∧ p3 < v.1) : (kd_commit p0 p1 p2 p3 p4 v).1 = (md_commit p0.toNatClampNeg p1.toNatClampNeg p2 p3.toNatClampNeg p4 u).1 ∧ kRel (kd_commit p0 p1 p2 p3 p4 v).2 (md_commit p0.toNatClampNeg p1.toNatClampNeg p2 p3.toNatClampNeg p4 u).2 ∧ (md_commit p0.toNatClampNeg p1.toNatClampNeg p2 p3.toNatClampNeg p4 u).2.1 = 0 := by
  obtain ⟨lg, tm, lf, wr, G⟩ := v
  obtain ⟨co, lg', tm', rm, no, M⟩ := u
  obtain ⟨rfl, rfl, rfl, rfl, hl, hn, ht, hG⟩ := h
  have h3 : vp_in p3 8 := k_in8 hn h3
  obtain ⟨a, ha, rfl⟩ := vp_in_of h0 (by decide)
  obtain ⟨b, hb, rfl⟩ := vp_in_of h1 (by decide)
  obtain ⟨q, hq, rfl⟩ := vp_in_of h3 (by decide)
  have hca : (nI a).toNatClampNeg = a := nI_clamp (by omega)
  have hcb : (nI b).toNatClampNeg = b := nI_clamp (by omega)
  have hcq : (nI q).toNatClampNeg = q := nI_clamp (by omega)
  rw [hca, hcb, hcq]
  have same : ∀ r : Int32, r ≠ 0 → kg_ref (nI b) p2 (nI q) (G a) = r → (kd_commit (nI a) (nI b) p2 (nI q) p4 (lg', tm', rm, no, G)) = (r, (lg', tm', rm, no, G)) := fun r hr e => by
    simp only [kd_commit, hca, e, if_neg hr]
  have hR := (hG a ha).1
  have hk : kg_ref (nI b) p2 (nI q) (G a) = if (M a).2.2.2.1 b = 0 then (-8) else if p2 = (M a).2.1 then (if (M a).1 = 2 then (if nI (mo (M a).2.2.2.1 q) = nI b then 0 else (-11)) else (-10)) else (-9) := by
    generalize G a = x at hR ⊢
    generalize M a = y at hR ⊢
    have e1 := kR_me hR hb
    have e2 := kR_st hR
    unfold kg_ref
    rw [e1, e2.1, e2.2.1]
    by_cases w : y.2.2.2.1 b = 0
    · rw [if_pos w, if_pos w]
    · rw [if_neg w, if_neg w]
      by_cases n : p2 = x.1
      · rw [if_pos n, if_pos n]
        by_cases s : x.2.1 = 2
        · rw [if_pos s, if_pos s]
          obtain ⟨x0, x1, x2, x3, x4, x5, x6⟩ := x
          obtain ⟨y0, y1, y2, y3, y4, y5, y6⟩ := y
          have hb2 : bt x2 b = true := by
            have w : ¬ y3 b = 0 := w
            rw [hR.1.2.2.2.2.1 b hb, b01_0] at w
            simpa using w
          rw [k_gives s hR.1.2.2.2.1 hR.1.2.2.2.2.1 hq hb hb2]
          by_cases o : nI (mo y3 q) = nI b
          · rw [if_pos o, if_neg (by decide)]; exact (if_pos o).symm
          · rw [if_neg o, if_pos rfl]; exact (if_neg o).symm
        · rw [if_neg s, if_neg s]
      · rw [if_neg n, if_neg n]
  simp only [md_commit]
  by_cases w : (M a).2.2.2.1 b = 0
  · rw [if_pos w] at hk
    rw [same _ (by decide) hk, if_pos w]
    exact ⟨rfl, ⟨rfl, rfl, rfl, rfl, hl, hn, ht, hG⟩, rfl⟩
  · rw [if_neg w] at hk
    rw [if_neg w]
    by_cases n : p2 = (M a).2.1
    · rw [if_pos n] at hk
      rw [if_pos n]
      by_cases s : (M a).1 = 2
      · rw [if_pos s] at hk
        rw [if_pos s]
        by_cases o : nI (mo (M a).2.2.2.1 q) = nI b
        · rw [if_pos o] at hk
          rw [if_pos o]
          obtain ⟨e1, e2⟩ := kn_take no hl
          simp only [kd_commit, hca, hk, if_true, e1]
          by_cases z : (mn_take rm no).1 = 0
          · rw [if_pos z, if_pos z]
            exact ⟨rfl, ⟨rfl, rfl, rfl, rfl, e2, hn, ht, hG⟩, rfl⟩
          · rw [if_neg z, if_neg z]
            exact ⟨rfl, ⟨rfl, rfl, rfl, rfl, e2, hn, ht, kRG_up hG (kR_hear tm' hb (kR_off p4 hq hR)) (kL_hear (kL_off (hG a ha).2))⟩, rfl⟩
        · rw [if_neg o] at hk
          rw [same _ (by decide) hk, if_neg o]
          exact ⟨rfl, ⟨rfl, rfl, rfl, rfl, hl, hn, ht, hG⟩, rfl⟩
      · rw [if_neg s] at hk
        rw [same _ (by decide) hk, if_neg s]
        exact ⟨rfl, ⟨rfl, rfl, rfl, rfl, hl, hn, ht, hG⟩, rfl⟩
    · rw [if_neg n] at hk
      rw [same _ (by decide) hk, if_neg n]
      exact ⟨rfl, ⟨rfl, rfl, rfl, rfl, hl, hn, ht, hG⟩, rfl⟩
theorem rel_committed (h : kRel v u) (h0 : vp_in p0 8) (h1 : ¬ p1 < 0 ∧ p1 < v.1) : (v.2.2.2.2 p0.toNatClampNeg).2.2.2.2.2.2 p1.toNatClampNeg = (u.2.2.2.2.2 p0.toNatClampNeg).2.2.2.2.2.2 p1.toNatClampNeg := by
  obtain ⟨lg, tm, lf, wr, G⟩ := v
  obtain ⟨co, lg', tm', rm, no, M⟩ := u
  obtain ⟨rfl, rfl, rfl, rfl, hl, hn, ht, hG⟩ := h
  obtain ⟨a, ha, rfl⟩ := vp_in_of h0 (by decide)
  obtain ⟨q, hq, rfl⟩ := vp_in_of (k_in8 hn h1) (by decide)
  rw [nI_clamp (show a < 2 ^ 31 by omega), nI_clamp (show q < 2 ^ 31 by omega)]
  have hR := (hG a ha).1
  show (G a).2.2.2.2.2.2 q = (M a).2.2.2.2.2.2 q
  generalize G a = x at hR ⊢
  generalize M a = y at hR ⊢
  obtain ⟨x0, x1, x2, x3, x4, x5, x6⟩ := x
  obtain ⟨y0, y1, y2, y3, y4, y5, y6⟩ := y
  exact (hR.1.2.2.2.2.2.2 q hq).symm
theorem kl_lim {x : kGV} {y : mGV} {t : Int32} (hR : kR x y) (hL : kL x) (ht : kT t) : kg_lim t x = mg_lim t y := by
  obtain ⟨e0, e1, e2⟩ := kR_st hR
  unfold kg_lim mg_lim
  rw [e0, e2]
  by_cases w : x.2.1 = 1
  · rw [if_pos w, if_pos w]
    obtain ⟨l1, l2⟩ := hL
    obtain ⟨t1, t2⟩ := ht
    generalize x.2.2.2.2.1 = m at l1 l2 ⊢
    have hs : (m - t).toInt = m.toInt - t.toInt := by
      rw [Int32.toInt_sub]
      exact Int.bmod_eq_of_le (by omega) (by omega)
    have z0 : (0 : Int32).toInt = 0 := rfl
    by_cases z : m ≤ t
    · rw [if_pos z]
      have z2 := Int32.le_iff_toInt_le.mp z
      by_cases y : m - t < 0
      · rw [if_pos y]
      · rw [if_neg y]
        apply Int32.toInt_inj.mp
        rw [Int32.lt_iff_toInt_lt, hs, z0] at y
        rw [hs, z0]
        omega
    · rw [if_neg z]
      have z2 : ¬ m.toInt ≤ t.toInt := fun q => z (Int32.le_iff_toInt_le.mpr q)
      have y : ¬ m - t < 0 := by
        rw [Int32.lt_iff_toInt_lt, hs, z0]
        omega
      rw [if_neg y]
  · rw [if_neg w, if_neg w]
theorem rel_group (h : kRel v u) (h0 : vp_in p0 8) (h1 : vp_in p1 5) : kg_what v.2.1 p1 (v.2.2.2.2 p0.toNatClampNeg) = mg_what u.2.2.1 p1 (u.2.2.2.2.2 p0.toNatClampNeg) := by
  obtain ⟨lg, tm, lf, wr, G⟩ := v
  obtain ⟨co, lg', tm', rm, no, M⟩ := u
  obtain ⟨rfl, rfl, rfl, rfl, hl, hn, ht, hG⟩ := h
  obtain ⟨a, ha, rfl⟩ := vp_in_of h0 (by decide)
  obtain ⟨w, hw, rfl⟩ := vp_in_of h1 (by decide)
  rw [nI_clamp (show a < 2 ^ 31 by omega)]
  have hR := (hG a ha).1
  have hL := (hG a ha).2
  show kg_what tm' (nI w) (G a) = mg_what tm' (nI w) (M a)
  generalize G a = x at hR hL ⊢
  generalize M a = y at hR ⊢
  obtain ⟨e0, e1, e2⟩ := kR_st hR
  have hlim := kl_lim hR hL ht
  rcases (show w = 0 ∨ w = 1 ∨ w = 2 ∨ w = 3 ∨ w = 4 by omega) with rfl | rfl | rfl | rfl | rfl
  · unfold kg_what mg_what
    rw [if_pos (by decide), if_neg (by decide), if_pos (by decide)]; exact e1.symm
  · unfold kg_what mg_what
    rw [if_neg (by decide), if_pos (by decide), if_neg (by decide), if_neg (by decide)]; exact e0.symm
  · unfold kg_what mg_what
    rw [if_neg (by decide), if_neg (by decide), if_pos (by decide), if_pos (by decide), if_neg (by decide)]
    obtain ⟨x0, x1, x2, x3, x4, x5, x6⟩ := x
    obtain ⟨y0, y1, y2, y3, y4, y5, y6⟩ := y
    obtain ⟨⟨a0, a1, a2, a3, a4, a5, a6⟩, j0, j1, j2, j3, j4, j5⟩ := hR
    show x2 = mbd (mg_is (nI 2) y0 y3 y4) 8 0
    obtain ⟨m, hm, rfl, hb⟩ := ks_nat a3
    rw [mbd_congr (g := kba m) (fun i hi => ?_), mbd_bits hm]
    unfold mg_is
    rw [if_pos (show nI 2 = 2 from rfl), a4 i hi, bt_nat hb]
    unfold kba
    by_cases z : m.testBit i = true
    · rw [if_pos z]; rfl
    · rw [if_neg z]; rfl
  · unfold kg_what mg_what
    rw [if_neg (by decide), if_neg (by decide), if_neg (by decide), if_pos (by decide), if_pos (by decide), if_neg (by decide)]
    obtain ⟨x0, x1, x2, x3, x4, x5, x6⟩ := x
    obtain ⟨y0, y1, y2, y3, y4, y5, y6⟩ := y
    obtain ⟨⟨a0, a1, a2, a3, a4, a5, a6⟩, j0, j1, j2, j3, j4, j5⟩ := hR
    show x3 = mbd (mg_is (nI 3) y0 y3 y4) 8 0
    obtain ⟨m, hm, rfl, hb⟩ := ks_nat j0
    rw [mbd_congr (g := kba m) (fun i hi => ?_), mbd_bits hm]
    rw [← bt_nat hb]
    unfold mg_is
    rw [if_neg (show ¬ nI 3 = 2 by decide), a4 i hi, j1 i hi]
    have a0 : y0 = x1 := a0
    by_cases z : bt (nI m) i = true
    · have z2 := j2 i hi z
      unfold b01
      rw [z, z2]
      by_cases s : y0 = 2
      · rw [if_pos s]; rfl
      · rw [if_neg s]; rfl
    · have z : bt (nI m) i = false := by simpa using z
      unfold b01
      rw [z]
      by_cases z2 : bt x2 i = true
      · have s : ¬ y0 = 2 := fun s => by
          rw [← j4 (a0 ▸ s), z] at z2
          cases z2
        rw [z2, if_neg s]; rfl
      · have z2 : bt x2 i = false := by simpa using z2
        rw [z2]; rfl
  · unfold kg_what mg_what
    rw [if_neg (by decide), if_neg (by decide), if_neg (by decide), if_neg (by decide), if_pos (by decide), if_pos (by decide)]
    exact hlim
theorem rel_share (h : kRel v u) (h0 : vp_in p0 8) (h1 : vp_in p1 8) : kg_sh p1 (v.2.2.2.2 p0.toNatClampNeg) v.1.toNatClampNeg = mg_sh p1.toNatClampNeg u.2.1.toNatClampNeg (u.2.2.2.2.2 p0.toNatClampNeg) := by
  obtain ⟨lg, tm, lf, wr, G⟩ := v
  obtain ⟨co, lg', tm', rm, no, M⟩ := u
  obtain ⟨rfl, rfl, rfl, rfl, hl, ⟨n, hn, rfl⟩, ht, hG⟩ := h
  obtain ⟨a, ha, rfl⟩ := vp_in_of h0 (by decide)
  obtain ⟨b, hb, rfl⟩ := vp_in_of h1 (by decide)
  rw [nI_clamp (show a < 2 ^ 31 by omega), nI_clamp (show b < 2 ^ 31 by omega)]
  have hcn : (nI n).toNatClampNeg = n := nI_clamp (by omega)
  show kg_sh (nI b) (G a) (nI n).toNatClampNeg = mg_sh b (nI n).toNatClampNeg (M a)
  rw [hcn]
  have hR := (hG a ha).1
  generalize G a = x at hR ⊢
  generalize M a = y at hR ⊢
  obtain ⟨x0, x1, x2, x3, x4, x5, x6⟩ := x
  obtain ⟨y0, y1, y2, y3, y4, y5, y6⟩ := y
  have e1 := kR_me hR hb
  obtain ⟨⟨a0, a1, a2, a3, a4, a5, a6⟩, j0, j1, j2, j3, j4, j5⟩ := hR
  have e1 : kg_has x2 (nI b) = y3 b := e1
  have hzero : (∀ i, i < n → kg_gives (nI i) (nI b) (x0, x1, x2, x3, x4, x5, x6) = 0) → kg_sh (nI b) (x0, x1, x2, x3, x4, x5, x6) n = 0 := by
    intro z
    clear hcn
    induction n with
    | zero => rfl
    | succ n ih =>
      rw [kg_sh, if_pos (z n (by omega))]
      exact ih (by omega) (fun i hi => z i (by omega))
  unfold mg_sh
  show _ = if y0 = 2 then (if y3 b = 0 then 0 else mbd (mg_ow y3 b) n 0) else 0
  by_cases s : x1 = 2
  · have a0 : y0 = x1 := a0
    rw [if_pos (a0.trans s)]
    by_cases w : y3 b = 0
    · rw [if_pos w]
      refine hzero (fun i _ => ?_)
      unfold kg_gives
      simp only [if_pos s, e1, if_pos w]
    · rw [if_neg w]
      have hb2 : bt x2 b = true := by
        rw [a4 b hb, b01_0] at w
        simpa using w
      rw [k_sh (f := mg_ow y3 b) hn (fun i hi => k_gives s a3 a4 (by omega) hb hb2)]
      have := mbd_sum (f := mg_ow y3 b) (n := n) (fun i _ => by unfold mg_ow; split; exact Or.inr rfl; exact Or.inl rfl) 0
      rw [show nI 0 = 0 from rfl] at this
      rw [this]
      simp
  · have a0 : y0 = x1 := a0
    rw [if_neg (by rw [a0]; exact s)]
    refine hzero (fun i _ => ?_)
    unfold kg_gives
    simp only [if_neg s]
theorem rel_rest {G : Nat → kGV} {M : Nat → mGV} (hG : kRG G M) : ∀ i, i ≤ 8 → (kd_rest G i).1 = (mrs M i).1 ∧ kRG (kd_rest G i).2 (mrs M i).2 := by
  intro i
  induction i with
  | zero => exact fun _ => ⟨rfl, hG⟩
  | succ i ih =>
    intro hi
    obtain ⟨h1, h2⟩ := ih (by omega)
    have hR := (h2 i (by omega)).1
    rw [kd_rest, mrs]
    refine ⟨?_, kRG_up h2 (kR_clear hR.1) (kL_clear (h2 i (by omega)).2)⟩
    show (kd_rest G i).1 + k_bc ((kd_rest G i).2 i).2.2.1 = (mrs M i).1 + mg_cnt ((mrs M i).2 i).2.2.2.1 8
    rw [h1]
    congr 1
    generalize (kd_rest G i).2 i = x at hR ⊢
    generalize (mrs M i).2 i = y at hR ⊢
    obtain ⟨x0, x1, x2, x3, x4, x5, x6⟩ := x
    obtain ⟨y0, y1, y2, y3, y4, y5, y6⟩ := y
    obtain ⟨m, hm, e, hb⟩ := ks_nat hR.1.2.2.2.1
    show k_bc x2 = mg_cnt y3 8
    rw [e, kpc_bc hm, cnt_congr (g := kba m) (fun i hi => by rw [hR.1.2.2.2.2.1 i hi, bt_nat hb]), kpc_cnt]
theorem rel_tk {G : Nat → kGV} {M : Nat → mGV} {t lf wr : Int32} (ht : kT t) (hl : ¬ lf < 0) (hG : kRG G M) : ∀ i, i ≤ 8 → (kd_tk t lf wr G i).1 = (mdt t lf wr M i).1 ∧ (kd_tk t lf wr G i).2.1 = (mdt t lf wr M i).2.1 ∧ ¬ (kd_tk t lf wr G i).1 < 0 ∧ kRG (kd_tk t lf wr G i).2.2 (mdt t lf wr M i).2.2 := by
  intro i
  induction i with
  | zero => exact fun _ => ⟨rfl, rfl, hl, hG⟩
  | succ i ih =>
    intro hi
    obtain ⟨h1, h2, h3, h4⟩ := ih (by omega)
    have hR := h4 i (by omega)
    rw [kd_tk, mdt, ← h1, ← h2]
    obtain ⟨f1, f2, f3⟩ := kR_fin t (kd_tk t lf wr G i).1 (kd_tk t lf wr G i).2.1 h3 (kR_drop t hR.1)
    refine ⟨?_, ?_, ?_, kRG_up h4 f1 (kL_fin (kL_drop ht hR.2))⟩
    · show (kg_fin _ _ _ _).2.1 = (mg_done _ _ _ _).2.1
      rw [f2]
    · show (kg_fin _ _ _ _).2.2 = (mg_done _ _ _ _).2.2
      rw [f2]
    · show ¬ (kg_fin _ _ _ _).2.1 < 0
      rw [f2]; exact f3
theorem rel_tick (h : kRel v u) (ht : v.2.1.toInt + 1 ≤ 1000000) : kRel (kd_tick v) (md_tick u) ∧ (kd_tick v).2.1.toInt = v.2.1.toInt + 1 := by
  obtain ⟨lg, tm, lf, wr, G⟩ := v
  obtain ⟨co, lg', tm', rm, no, M⟩ := u
  obtain ⟨rfl, rfl, rfl, rfl, hl, hn, ⟨t1, t2⟩, hG⟩ := h
  have ht : tm'.toInt + 1 ≤ 1000000 := ht
  have e : (tm' + 1).toInt = tm'.toInt + 1 := by
    rw [Int32.toInt_add, show (1 : Int32).toInt = 1 from rfl]
    exact Int.bmod_eq_of_le (by omega) (by omega)
  have hT : kT (tm' + 1) := ⟨by rw [e]; omega, by rw [e]; omega⟩
  obtain ⟨h1, h2, h3, h4⟩ := rel_tk (t := tm' + 1) (wr := no) hT hl hG 8 (Nat.le_refl 8)
  exact ⟨⟨rfl, rfl, h1.symm, h2.symm, h3, hn, hT, h4⟩, e⟩
theorem rel_ticks (h : kRel v u) {n : Nat} (ht : v.2.1.toInt + n ≤ 1000000) : kRel (kd_ticks v n) (md_ticks u n) ∧ (kd_ticks v n).2.1.toInt = v.2.1.toInt + n := by
  induction n with
  | zero => exact ⟨h, by show v.2.1.toInt = v.2.1.toInt + 0; omega⟩
  | succ n ih =>
    obtain ⟨h1, h2⟩ := ih (by omega)
    obtain ⟨h3, h4⟩ := rel_tick h1 (by rw [h2]; omega)
    refine ⟨h3, ?_⟩
    show (kd_tick (kd_ticks v n)).2.1.toInt = _
    rw [h4, h2]
    omega
end KRA
theorem rel_tm {v : kDV} {u : mDV} (h : kRel v u) : u.2.2.1 = v.2.1 ∧ u.2.1 = v.1 ∧ u.2.2.2.1 = v.2.2.1 ∧ u.2.2.2.2.1 = v.2.2.2.1 ∧ kT v.2.1 := by
  obtain ⟨lg, tm, lf, wr, G⟩ := v
  obtain ⟨co, lg', tm', rm, no, M⟩ := u
  exact ⟨h.2.1, h.1, h.2.2.1, h.2.2.2.1, h.2.2.2.2.2.2.1⟩
theorem mo1_lt {n i : Nat} (h : i < n) : mo1 n i = -1 := by
  induction n with
  | zero => omega
  | succ n ih =>
    rw [mo1]
    by_cases e : i = n
    · subst e; exact pk_uLs
    · rw [pk_uLn e]; exact ih (by omega)
theorem mMi_lt {n g : Nat} (h : g < n) : mMi n g = (0, 0, 0, fun _ => 0, fun _ => 0, fun _ => 0, mo1 8) := by
  induction n with
  | zero => omega
  | succ n ih =>
    rw [mMi]
    by_cases e : g = n
    · subst e; exact va_up_self _ _ _
    · rw [va_up_ne _ _ e]; exact ih (by omega)
theorem k_lg_n (x : Int32) : ∃ n : Nat, n ≤ 8 ∧ k_lg x = nI n := by
  rw [← m_lg]
  by_cases h1 : 1 ≤ x
  · rw [if_pos h1]
    by_cases h2 : x ≤ 8
    · rw [if_pos h2]
      refine nI_of2 (M := 8) rfl (fun z => ?_) h2
      exact absurd (Int32.lt_iff_toInt_lt.mp z) (by have := Int32.le_iff_toInt_le.mp h1; rw [show (1 : Int32).toInt = 1 from rfl] at this; rw [show (0 : Int32).toInt = 0 from rfl]; omega)
    · rw [if_neg h2]; exact ⟨8, Nat.le_refl 8, rfl⟩
  · rw [if_neg h1]; exact ⟨1, by decide, rfl⟩
theorem rel_init (x : Int32) : kRel (k_lg x, 0, 1000, 0, kG0) (0, k_lg x, 0, 1000, 0, mMi 8) := by
  refine ⟨rfl, rfl, rfl, rfl, by decide, k_lg_n x, ⟨by decide, by decide⟩, fun g hg => ?_⟩
  rw [mMi_lt hg]
  refine ⟨⟨⟨rfl, rfl, rfl, ks_0, fun i _ => (b01_z i).symm, fun _ _ => rfl, fun i hi => mo1_lt hi⟩, ks_0, fun i _ => (b01_z i).symm, fun i _ z => z, Or.inl rfl, fun _ => rfl, fun _ => rfl⟩, ⟨show (0 : Int) ≤ (0 : Int32).toInt by decide, show (0 : Int32).toInt ≤ 1000020 by decide⟩⟩
end
section
/-! an exception of a callee is caught: the method's one handler names a class that may not be resolved yet -/
section KXA
theorem kx_find {e : Env} {s : State} {f : JFrame} {a : Addr} {meth : Method} {code : Code} {x : ExceptionTableEntry} {c : ClassId} {cell : Cell} (hm : s.vm.method? f.method = some meth) (hc : meth.code = some code) (hx1 : code.exceptionTable.toList = [x])
    (hx : covers x f.pc = true) (h0 : x.catchType ≠ 0) (hl : s.vm.ClassLinks e.platform f.method.cls x.catchType c) (hcell : s.heap[a]? = some cell) (hobj : ∀ k, cell.vm ≠ .statics k)
    (hk : ∃ k, s.vm.classes[cell.cls]? = some k) (hcl : ∃ k, s.vm.classes[c]? = some k) (hfit : s.vm.assignable cell.cls c = true) (Q : Handler → Pre) (E : CtlPost) (d : Bool) (acts : List Action) :
    wp (findHandler f a) Q E e d acts s ↔ Q (.found x.handlerPc) d acts (s.setVm (s.vm.noted f.method.cls x.catchType (.cls c))) := by
  rw [W.findHandler_eq hm hc, hx1]
  simp only [covers] at hx
  obtain ⟨ha, ht⟩ := (resolveClass_links e.toSetting hl).op (op := VmOp.resolveClass f.method.cls x.catchType) rfl
  have hal : s.vm.Alike (s.vm.noted f.method.cls x.catchType (.cls c)) := (Vm.Alike.refl s.vm).noted _ _ _
  obtain ⟨k1, hk1⟩ := hk
  obtain ⟨k2, hk2⟩ := hcl
  obtain ⟨k1', hk1', -⟩ := hal.2.2 _ _ hk1
  obtain ⟨k2', hk2', -⟩ := hal.2.2 _ _ hk2
  have hfit' : (s.vm.noted f.method.cls x.catchType (.cls c)).assignable cell.cls c = true := by rw [hal.assignable]; exact hfit
  simp [findHandler.go, hx, h0, ha, ht, hcell, hobj, hk1', hk2', hfit', VmOp.dirties, VmOp.acts]
theorem kx_self (vm : Vm) (c : ClassId) : vm.assignable c c = true := by
  show vm.assignableAux (255 + 1) c c = true
  rw [Vm.assignableAux]
  simp
theorem kx_steps {tb : Tables} {e : Env} {s target : State} {g : JFrame} {c : Code} {below : List Frame} {a : Addr} (h : At s g.method c below) {pc : Nat} {vm' : Vm}
    (hfind : ∀ (Q : Handler → Pre) (E : CtlPost) (d : Bool) (acts : List Action), wp (findHandler g a) Q E e d acts ((s.setTop g).pushFrame (.throwing a)) ↔ Q (.found pc) d acts (((s.setTop g).pushFrame (.throwing a)).setVm vm'))
    (hrest : Steps tb e below ((s.setVm vm').setTop { g with pc := pc, stack := [.ref a] }) target) : Steps tb e below ((s.setTop g).pushFrame (.throwing a)) target := by
  obtain ⟨hgo, hw⟩ := h.throwing a
  refine Steps.head hgo hw ?_
  have hst : ∀ r : List Frame, (stepThrowing e ((s.setTop g).pushFrame (.throwing a)) a (.java g :: r)).Is ((((s.setTop g).pushFrame (.throwing a)).setVm vm').setFrames (.java { g with pc := pc, stack := [.ref a] } :: r)) [] := by
    intro r
    simp only [stepThrowing, searchFrame, vmDo]
    generalize hr : Sem.go _ e false [] ((s.setTop g).pushFrame (.throwing a)) = res
    obtain ⟨as, rfl, ha⟩ := Sem.eq_ok_of hr (a := Handler.found pc) (s' := ((s.setTop g).pushFrame (.throwing a)).setVm vm') (acts' := []) (by simp [hfind _ _ _ _])
    exact ⟨rfl, ha⟩
  rw [stepThread_throwing (frames_entered h.top _), (hst _).1]
  obtain ⟨g₀, hg⟩ := Option.isSome_iff_exists.mp h.top
  obtain ⟨r, hr⟩ := State.topJava?_eq_some.mp hg
  have hr' : (s.setVm vm').frames = .java g₀ :: r := hr
  have two : ∀ (u : State) (F G : List Frame), ((u.setFrames F).setVm vm').setFrames G = (u.setVm vm').setFrames G := by
    intro u F G
    have h1 : (u.setFrames F).setVm vm' = (u.setVm vm').setFrames F := rfl
    rw [h1, State.setFrames_setFrames]
  rw [State.setTop_of_frames _ hr'] at hrest
  rw [hr, List.tail_cons, State.pushFrame, two, State.setTop_of_frames _ hr, two]
  exact hrest
end KXA
section KXB
variable {p : Program} {l : Launch} {e : Env} {R : Room} {s : State} {m : MethodId} {args : Array Value} {below : List Frame} {meth : Method} {c : Code} {H : Heap} {locs : List Loc} {cells slots : Nat} {Q : State → Prop}
theorem kx_at {T : State} {g : JFrame} {a : Addr} {own name : String} {x : ExceptionTableEntry} {cT : ClassId} {cell : Cell} (X : Stand p l e R s m args below meth c T locs cells slots) (hg : g.method = m) (hown : s.vm.findClass own = some m.cls)
    (hx1 : c.exceptionTable.toList = [x]) (hx : covers x g.pc = true) (h0 : x.catchType ≠ 0) (hlink : (Cond.classLink own x.catchType name).before args s = true) (hcT : s.vm.findClass name = some cT) (hcell : T.heap[a]? = some cell) (hobj : cell.vm.isStatics = false) (hcl : cell.cls = cT) :
    ∃ vm', Stand p l e R s m args below meth c (T.setVm vm') locs cells slots ∧
      ∀ target, Steps p.tables e below ((T.setVm vm').setTop { g with pc := x.handlerPc, stack := [.ref a] }) target → Steps p.tables e below ((T.setTop g).pushFrame (.throwing a)) target := by
  have hpl : e.platform.magicAccessors = ({} : Platform).magicAccessors := by rw [X.admits.platform]
  obtain ⟨c', hc', hlk⟩ := Cond.classLink_spec hown hlink e.platform hpl
  cases hcT.symm.trans hc'
  obtain ⟨dk, _, _, kt, hd, _, _, _, _, hkt, _, hopen⟩ := hlk.here
  have hcl₀ := X.warmed.classLinks hlk
  have hW' : s.WarmedH (T.vm.noted m.cls x.catchType (.cls cT)) := X.warmed.noted hd hopen (State.rightAt_cls hlk)
  have hal := X.warmed.alike
  obtain ⟨kt', hkt', -⟩ := hal.2.2 _ _ hkt
  have hfit' : T.vm.assignable cell.cls cT = true := by rw [hcl]; exact kx_self _ _
  refine ⟨_, X.noted hW', fun target hrest => ?_⟩
  subst hg
  exact kx_steps X.here (kx_find (s := (T.setTop g).pushFrame (.throwing a)) (meth := meth) (code := c) X.method' X.code hx1 hx h0 (c := cT) (cell := cell) hcl₀ hcell (VmData.ne_statics_of hobj)
    (Vm.classAt_of_assignable hfit' ⟨kt', hkt'⟩) ⟨kt', hkt'⟩ hfit') hrest
variable {D : va_G} {cl : List vw_C} {A : Nat → Prop} {L : List Nat} {pc mc ms : Nat} {ls : Array Slot} {st0 rest : List Value} {a : Array Value}
theorem kx_thrown {xN own : String} {x : ExceptionTableEntry} {T T' st₀ t : State} {L2 : List Loc} {q : Addr} (hT : T.heap = s.heap) (h0' : st₀.heap = s.heap) (hw0 : s.WarmedH st₀.vm) (X' : Stand p l e R s m args below meth c T' ([] ++ L2) (cells + mc) (slots + ms)) (hL2 : ∀ z ∈ L2, kA L s.heap.size z.base) (e1 : T'.heap = t.heap) (hX : kt_X xN st₀ q t)
    (hst : Steps p.tables e below (T.setTop (F0 m pc ls st0)) ((T'.setTop (F0 m pc ls rest)).pushFrame (.throwing q)))
    (hA : ∀ z, s.heap.size ≤ z → A z) (hL : ∀ z ∈ L, A z) (hown : s.vm.findClass own = some m.cls) (hx1 : c.exceptionTable.toList = [x]) (hx : covers x pc = true) (h0 : x.catchType ≠ 0) (hlink : (Cond.classLink own x.catchType xN).before args s = true)
    (kx : ∀ (q : Addr) (H1 : Heap) (locs1 : List Loc), s.heap.size ≤ H1.size → (∀ z : Nat, z < s.heap.size → H1[z]? = s.heap[z]?) → va_S A s.heap H1 locs1 → W p l e R s m args below meth c H1 locs1 (cells + mc) (slots + ms) Q (F0 m x.handlerPc ls [.ref q])) :
    ∃ t2, Steps p.tables e below (T.setTop (F0 m pc ls st0)) t2 ∧ Q t2 := by
  obtain ⟨g1, g2, ce, g3, g4, g5⟩ := hX
  have hcl : s.vm.findClass xN = some ce.cls := by rw [← hw0.alike.findClass]; exact g5
  obtain ⟨vm', X2, st⟩ := kx_at (g := F0 m pc ls rest) (a := q) X' rfl hown hx1 hx h0 hlink hcl (cell := ce) (by rw [e1]; exact g3) (by rw [g4]; rfl) rfl
  have hz : s.heap.size ≤ T'.heap.size := by rw [e1, ← h0']; exact g1
  have hk : ∀ z : Nat, z < s.heap.size → T'.heap[z]? = s.heap[z]? := fun z hz => by rw [e1, g2 z (by rw [h0']; exact hz), h0']
  obtain ⟨t2, a1, b1⟩ := kx q T'.heap ([] ++ L2) hz hk ⟨hz, fun z h1 _ => hk z h1, fun z h => (hL2 z (by simpa using h)).elim (hL z.base) (hA z.base)⟩ (T'.setVm vm') rfl X2
  exact ⟨t2, hst.trans (st _ a1), b1⟩
theorem kx_calli {σ : Type} {post : Int32 → σ → Prop} {Wd : σ → va_W} {xN own : String} {thr : Prop} {x : ExceptionTableEntry}
    (hr : kt_Run p l e R s m args below meth c s.heap [] cells slots mc ms (F0 m pc ls st0) rest (kt_Or xN (va_Qi post (fun u t => va_P D cl (Wd u) t.heap) (kA L s.heap.size)) thr a) (kA L s.heap.size))
    (hA : ∀ q, s.heap.size ≤ q → A q) (hL : ∀ q ∈ L, A q) (hown : s.vm.findClass own = some m.cls) (hx1 : c.exceptionTable.toList = [x]) (hx : covers x pc = true) (h0 : x.catchType ≠ 0) (hlink : (Cond.classLink own x.catchType xN).before args s = true)
    (kx : ∀ (q : Addr) (H1 : Heap) (locs1 : List Loc), thr → s.heap.size ≤ H1.size → (∀ z : Nat, z < s.heap.size → H1[z]? = s.heap[z]?) → va_S A s.heap H1 locs1 → W p l e R s m args below meth c H1 locs1 (cells + mc) (slots + ms) Q (F0 m x.handlerPc ls [.ref q]))
    (kk : ∀ (r : Int32) (u : σ) (H1 : Heap) (locs1 : List Loc), post r u → va_P D cl (Wd u) H1 → s.heap.size ≤ H1.size → (∀ q : Nat, q < s.heap.size → q ∉ L → H1[q]? = s.heap[q]?) → va_S A s.heap H1 locs1 → W p l e R s m args below meth c H1 locs1 (cells + mc) (slots + ms) Q (F0 m (pc + 3) ls (.int r :: rest))) : W p l e R s m args below meth c s.heap [] cells slots Q (F0 m pc ls st0) := by
  intro T hT X
  obtain ⟨o, st₀, t, T', L2, h0', hw0, X', hL2, e1, e2, hq, hret, hthr⟩ := hr T hT X
  rcases hq with ⟨⟨r, u, rfl, hp, hB⟩, hz, hk⟩ | ⟨q, rfl, ht, hX⟩
  · rw [h0'] at hz hk
    obtain ⟨t2, a1, b1⟩ := kk r u T'.heap ([] ++ L2) hp (by rw [e1]; exact hB) (by rw [e1]; exact hz) (fun q h1 h2 => by rw [e1]; exact hk q h1 (fun h => h.elim h2 (fun z => absurd h1 (Nat.not_lt.mpr z))))
      ⟨by rw [e1]; exact hz, fun q h1 h2 => by rw [e1]; exact hk q h1 (fun h => h2 (h.elim (hL q) (hA q))), fun z h => (hL2 z (by simpa using h)).elim (hL z.base) (hA z.base)⟩ T' rfl X'
    exact ⟨t2, hret _ rfl t2 a1, b1⟩
  · exact kx_thrown hT h0' hw0 X' hL2 e1 hX (hthr q rfl) hA hL hown hx1 hx h0 hlink (fun q H1 locs1 => kx q H1 locs1 ht)
theorem kx_calll {σ : Type} {post : Int64 → σ → Prop} {Wd : σ → va_W} {xN own : String} {thr : Prop} {x : ExceptionTableEntry}
    (hr : kt_Run p l e R s m args below meth c s.heap [] cells slots mc ms (F0 m pc ls st0) rest (kt_Or xN (va_Ql post (fun u t => va_P D cl (Wd u) t.heap) (kA L s.heap.size)) thr a) (kA L s.heap.size))
    (hA : ∀ q, s.heap.size ≤ q → A q) (hL : ∀ q ∈ L, A q) (hown : s.vm.findClass own = some m.cls) (hx1 : c.exceptionTable.toList = [x]) (hx : covers x pc = true) (h0 : x.catchType ≠ 0) (hlink : (Cond.classLink own x.catchType xN).before args s = true)
    (kx : ∀ (q : Addr) (H1 : Heap) (locs1 : List Loc), thr → s.heap.size ≤ H1.size → (∀ z : Nat, z < s.heap.size → H1[z]? = s.heap[z]?) → va_S A s.heap H1 locs1 → W p l e R s m args below meth c H1 locs1 (cells + mc) (slots + ms) Q (F0 m x.handlerPc ls [.ref q]))
    (kk : ∀ (r : Int64) (u : σ) (H1 : Heap) (locs1 : List Loc), post r u → va_P D cl (Wd u) H1 → s.heap.size ≤ H1.size → (∀ q : Nat, q < s.heap.size → q ∉ L → H1[q]? = s.heap[q]?) → va_S A s.heap H1 locs1 → W p l e R s m args below meth c H1 locs1 (cells + mc) (slots + ms) Q (F0 m (pc + 3) ls (.long r :: rest))) : W p l e R s m args below meth c s.heap [] cells slots Q (F0 m pc ls st0) := by
  intro T hT X
  obtain ⟨o, st₀, t, T', L2, h0', hw0, X', hL2, e1, e2, hq, hret, hthr⟩ := hr T hT X
  rcases hq with ⟨⟨r, u, rfl, hp, hB⟩, hz, hk⟩ | ⟨q, rfl, ht, hX⟩
  · rw [h0'] at hz hk
    obtain ⟨t2, a1, b1⟩ := kk r u T'.heap ([] ++ L2) hp (by rw [e1]; exact hB) (by rw [e1]; exact hz) (fun q h1 h2 => by rw [e1]; exact hk q h1 (fun h => h.elim h2 (fun z => absurd h1 (Nat.not_lt.mpr z))))
      ⟨by rw [e1]; exact hz, fun q h1 h2 => by rw [e1]; exact hk q h1 (fun h => h2 (h.elim (hL q) (hA q))), fun z h => (hL2 z (by simpa using h)).elim (hL z.base) (hA z.base)⟩ T' rfl X'
    exact ⟨t2, hret _ rfl t2 a1, b1⟩
  · exact kx_thrown hT h0' hw0 X' hL2 e1 hX (hthr q rfl) hA hL hown hx1 hx h0 hlink (fun q H1 locs1 => kx q H1 locs1 ht)
/-- a method with one handler: its table -/
theorem kx_table {y : MethodName} {bytes : ByteArray} {maxL : Nat} {ret : Option FieldType} {b0 b1 b2 b3 : Nat} (hn : s.methodNamed? y = some m) (hm : s.vm.method? m = some meth) (hc : meth.code = some c) (h : (Cond.codeWith y bytes maxL ret [(b0, b1, b2, b3)]).before args s = true) : ∃ x : ExceptionTableEntry, c.exceptionTable.toList = [x] ∧ x.startPc = b0 ∧ x.endPc = b1 ∧ x.handlerPc = b2 ∧ x.catchType = b3 := by
  obtain ⟨m9, meth9, c9, h1, h2, h3, -, -, h6, -⟩ := Cond.codeWith_spec h
  cases hn.symm.trans h1
  cases hm.symm.trans h2
  cases hc.symm.trans h3
  cases hL : c.exceptionTable.toList with
  | nil => rw [hL] at h6; cases h6
  | cons x xs =>
    rw [hL] at h6
    cases xs with
    | cons z zs => simp at h6
    | nil =>
      simp only [List.map_cons, List.map_nil, List.cons.injEq, Prod.mk.injEq, and_true] at h6
      exact ⟨x, rfl, h6.1, h6.2.1, h6.2.2.1, h6.2.2.2⟩
end KXB
end
