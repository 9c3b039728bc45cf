section
-- ===== PART A: goes FIRST, ahead of the names: the tables' words, and 'selects' of the private methods out of them =====
/-- a private method of a class that the tables say can be made, by its rows of tables_1 -/
def lw_okq (q : MethodName × Nat) : Prop := (q.1.cls ≠ "java/lang/invoke/MethodHandle" ∧ q.1.cls ≠ "java/lang/invoke/VarHandle") ∧ Cond.instantiable q.1.cls q.2 ∈ tables_1 ∧ Cond.privateMethod q.1 ∈ tables_1 ∧ Cond.instanceMethod q.1 ∈ tables_1
theorem lw_p0 : lw_okq (⟨"GroupDesk", "groupAt", "(I)LGroupDesk$Group;"⟩, 4) := ⟨⟨by decide +kernel, by decide +kernel⟩, List.mem_of_getElem? (i := 13) (by decide +kernel), List.mem_of_getElem? (i := 125) (by decide +kernel), List.mem_of_getElem? (i := 126) (by decide +kernel)⟩
theorem lw_p1 : lw_okq (⟨"java/lang/Throwable", "fillInStackTrace", "(I)Ljava/lang/Throwable;"⟩, 6) := ⟨⟨by decide +kernel, by decide +kernel⟩, List.mem_of_getElem? (i := 165) (by decide +kernel), List.mem_of_getElem? (i := 163) (by decide +kernel), List.mem_of_getElem? (i := 164) (by decide +kernel)⟩
theorem lw_p2 : lw_okq (⟨"GroupDesk", "checkMember", "(I)V"⟩, 4) := ⟨⟨by decide +kernel, by decide +kernel⟩, List.mem_of_getElem? (i := 13) (by decide +kernel), List.mem_of_getElem? (i := 195) (by decide +kernel), List.mem_of_getElem? (i := 196) (by decide +kernel)⟩
theorem lw_p3 : lw_okq (⟨"GroupDesk", "checkLog", "(I)V"⟩, 4) := ⟨⟨by decide +kernel, by decide +kernel⟩, List.mem_of_getElem? (i := 13) (by decide +kernel), List.mem_of_getElem? (i := 257) (by decide +kernel), List.mem_of_getElem? (i := 258) (by decide +kernel)⟩
theorem lw_p4 : lw_okq (⟨"GroupDesk", "tick", "()V"⟩, 4) := ⟨⟨by decide +kernel, by decide +kernel⟩, List.mem_of_getElem? (i := 13) (by decide +kernel), List.mem_of_getElem? (i := 321) (by decide +kernel), List.mem_of_getElem? (i := 322) (by decide +kernel)⟩
theorem lw_p5 : lw_okq (⟨"GroupDeskModel", "goes", "(Z)Z"⟩, 12) := ⟨⟨by decide +kernel, by decide +kernel⟩, List.mem_of_getElem? (i := 330) (by decide +kernel), List.mem_of_getElem? (i := 386) (by decide +kernel), List.mem_of_getElem? (i := 387) (by decide +kernel)⟩
theorem lw_p6 : lw_okq (⟨"GroupDeskModel", "mixes", "(I)V"⟩, 12) := ⟨⟨by decide +kernel, by decide +kernel⟩, List.mem_of_getElem? (i := 330) (by decide +kernel), List.mem_of_getElem? (i := 390) (by decide +kernel), List.mem_of_getElem? (i := 391) (by decide +kernel)⟩
theorem lw_p7 : lw_okq (⟨"GroupDeskModel", "mayBeDone", "(I)V"⟩, 12) := ⟨⟨by decide +kernel, by decide +kernel⟩, List.mem_of_getElem? (i := 330) (by decide +kernel), List.mem_of_getElem? (i := 394) (by decide +kernel), List.mem_of_getElem? (i := 395) (by decide +kernel)⟩
theorem lw_p8 : lw_okq (⟨"GroupDeskModel", "count", "(I)I"⟩, 12) := ⟨⟨by decide +kernel, by decide +kernel⟩, List.mem_of_getElem? (i := 330) (by decide +kernel), List.mem_of_getElem? (i := 398) (by decide +kernel), List.mem_of_getElem? (i := 399) (by decide +kernel)⟩
theorem lw_p9 : lw_okq (⟨"GroupDeskModel", "joinedOf", "(I)I"⟩, 12) := ⟨⟨by decide +kernel, by decide +kernel⟩, List.mem_of_getElem? (i := 330) (by decide +kernel), List.mem_of_getElem? (i := 402) (by decide +kernel), List.mem_of_getElem? (i := 403) (by decide +kernel)⟩
theorem lw_p10 : lw_okq (⟨"GroupDeskModel", "empties", "(I)V"⟩, 12) := ⟨⟨by decide +kernel, by decide +kernel⟩, List.mem_of_getElem? (i := 330) (by decide +kernel), List.mem_of_getElem? (i := 406) (by decide +kernel), List.mem_of_getElem? (i := 407) (by decide +kernel)⟩
theorem lw_p11 : lw_okq (⟨"GroupDeskModel", "takesNote", "()Z"⟩, 12) := ⟨⟨by decide +kernel, by decide +kernel⟩, List.mem_of_getElem? (i := 330) (by decide +kernel), List.mem_of_getElem? (i := 410) (by decide +kernel), List.mem_of_getElem? (i := 411) (by decide +kernel)⟩
theorem lw_p12 : lw_okq (⟨"GroupDeskModel", "without", "(I)V"⟩, 12) := ⟨⟨by decide +kernel, by decide +kernel⟩, List.mem_of_getElem? (i := 330) (by decide +kernel), List.mem_of_getElem? (i := 418) (by decide +kernel), List.mem_of_getElem? (i := 419) (by decide +kernel)⟩
theorem lw_p13 : lw_okq (⟨"GroupDeskModel", "owner", "(II)I"⟩, 12) := ⟨⟨by decide +kernel, by decide +kernel⟩, List.mem_of_getElem? (i := 330) (by decide +kernel), List.mem_of_getElem? (i := 430) (by decide +kernel), List.mem_of_getElem? (i := 431) (by decide +kernel)⟩
theorem lw_p14 : lw_okq (⟨"GroupDeskModel", "tick", "(I)V"⟩, 12) := ⟨⟨by decide +kernel, by decide +kernel⟩, List.mem_of_getElem? (i := 330) (by decide +kernel), List.mem_of_getElem? (i := 460) (by decide +kernel), List.mem_of_getElem? (i := 461) (by decide +kernel)⟩
def lw_privs_1 : List (MethodName × Nat) := [(⟨"GroupDesk", "groupAt", "(I)LGroupDesk$Group;"⟩, 4), (⟨"java/lang/Throwable", "fillInStackTrace", "(I)Ljava/lang/Throwable;"⟩, 6), (⟨"GroupDesk", "checkMember", "(I)V"⟩, 4), (⟨"GroupDesk", "checkLog", "(I)V"⟩, 4), (⟨"GroupDesk", "tick", "()V"⟩, 4), (⟨"GroupDeskModel", "goes", "(Z)Z"⟩, 12), (⟨"GroupDeskModel", "mixes", "(I)V"⟩, 12), (⟨"GroupDeskModel", "mayBeDone", "(I)V"⟩, 12), (⟨"GroupDeskModel", "count", "(I)I"⟩, 12), (⟨"GroupDeskModel", "joinedOf", "(I)I"⟩, 12), (⟨"GroupDeskModel", "empties", "(I)V"⟩, 12), (⟨"GroupDeskModel", "takesNote", "()Z"⟩, 12), (⟨"GroupDeskModel", "without", "(I)V"⟩, 12), (⟨"GroupDeskModel", "owner", "(II)I"⟩, 12), (⟨"GroupDeskModel", "tick", "(I)V"⟩, 12)]
theorem lw_r1 : ∀ q ∈ lw_privs_1, lw_okq q := List.forall_mem_cons.mpr ⟨lw_p0, List.forall_mem_cons.mpr ⟨lw_p1, List.forall_mem_cons.mpr ⟨lw_p2, List.forall_mem_cons.mpr ⟨lw_p3, List.forall_mem_cons.mpr ⟨lw_p4, List.forall_mem_cons.mpr ⟨lw_p5, List.forall_mem_cons.mpr ⟨lw_p6, List.forall_mem_cons.mpr ⟨lw_p7, List.forall_mem_cons.mpr ⟨lw_p8, List.forall_mem_cons.mpr ⟨lw_p9, List.forall_mem_cons.mpr ⟨lw_p10, List.forall_mem_cons.mpr ⟨lw_p11, List.forall_mem_cons.mpr ⟨lw_p12, List.forall_mem_cons.mpr ⟨lw_p13, List.forall_mem_cons.mpr ⟨lw_p14, fun _ h => absurd h List.not_mem_nil⟩⟩⟩⟩⟩⟩⟩⟩⟩⟩⟩⟩⟩⟩⟩
def lw_privs : List (MethodName × Nat) := lw_privs_1
def lw_tbl : List Cond := k2_sels lw_privs ++ tables_1
theorem lw_privs_ok : ∀ q ∈ lw_privs, lw_okq q := lw_r1

/-! the good words of the tables: every method's words are its own code and these -/
def kb_B : List Cond := lw_tbl.filter goodWord
theorem kb_mem {w : Cond} {i : Nat} (h : lw_tbl[i]? = some w) (hg : goodWord w = true) : w ∈ kb_B := List.mem_filter.mpr ⟨List.mem_of_getElem? h, hg⟩
theorem kb_good {ws : List Cond} (h : ∀ w ∈ ws, w ∈ kb_B) : GoodIn kb_B ws := fun w hw => ⟨h w hw, good_of_word (List.mem_filter.mp (h w hw)).2⟩
theorem kb_self {c : Cond} (h : c ∈ kb_B) : GoodIn kb_B (c :: kb_B) := kb_good (fun w hw => by rcases List.mem_cons.mp hw with rfl | hw; exact h; exact hw)
theorem kb_V {own C : String} {idx : Nat} {y : MethodName} {c : Cond} (h1 : Cond.methodLink own idx y ∈ kb_B) (h2 : Cond.instanceMethod y ∈ kb_B) (h3 : Cond.selects C y y ∈ kb_B) (h4 : Cond.initialized C ∈ kb_B) (h5 : c ∈ kb_B) : GoodIn kb_B (wsV own idx C y (c :: kb_B)) := kb_good (fun w hw => by
  simp only [wsV, List.cons_append, List.nil_append, List.mem_cons] at hw
  rcases hw with rfl | rfl | rfl | rfl | rfl | hw <;> assumption)
theorem kb_S {own : String} {idx : Nat} {y : MethodName} {c : Cond} (h1 : Cond.methodLink own idx y ∈ kb_B) (h2 : Cond.static y ∈ kb_B) (h4 : Cond.initialized y.cls ∈ kb_B) (h5 : c ∈ kb_B) : GoodIn kb_B (va_wsS own idx y (c :: kb_B)) := kb_good (fun w hw => by
  simp only [va_wsS, List.cons_append, List.nil_append, List.mem_cons] at hw
  rcases hw with rfl | rfl | rfl | rfl | hw <;> assumption)
theorem kb_s0 : (Cond.selects "GroupDesk" ⟨"GroupDesk", "groupAt", "(I)LGroupDesk$Group;"⟩ ⟨"GroupDesk", "groupAt", "(I)LGroupDesk$Group;"⟩) ∈ kb_B := kb_mem (i := 0) (by decide +kernel) (by decide +kernel)
theorem kb_s1 : (Cond.selects "java/lang/Throwable" ⟨"java/lang/Throwable", "fillInStackTrace", "(I)Ljava/lang/Throwable;"⟩ ⟨"java/lang/Throwable", "fillInStackTrace", "(I)Ljava/lang/Throwable;"⟩) ∈ kb_B := kb_mem (i := 1) (by decide +kernel) (by decide +kernel)
theorem kb_s2 : (Cond.selects "GroupDesk" ⟨"GroupDesk", "checkMember", "(I)V"⟩ ⟨"GroupDesk", "checkMember", "(I)V"⟩) ∈ kb_B := kb_mem (i := 2) (by decide +kernel) (by decide +kernel)
theorem kb_s3 : (Cond.selects "GroupDesk" ⟨"GroupDesk", "checkLog", "(I)V"⟩ ⟨"GroupDesk", "checkLog", "(I)V"⟩) ∈ kb_B := kb_mem (i := 3) (by decide +kernel) (by decide +kernel)
theorem kb_s4 : (Cond.selects "GroupDesk" ⟨"GroupDesk", "tick", "()V"⟩ ⟨"GroupDesk", "tick", "()V"⟩) ∈ kb_B := kb_mem (i := 4) (by decide +kernel) (by decide +kernel)
theorem kb_s5 : (Cond.selects "GroupDeskModel" ⟨"GroupDeskModel", "goes", "(Z)Z"⟩ ⟨"GroupDeskModel", "goes", "(Z)Z"⟩) ∈ kb_B := kb_mem (i := 5) (by decide +kernel) (by decide +kernel)
theorem kb_s6 : (Cond.selects "GroupDeskModel" ⟨"GroupDeskModel", "mixes", "(I)V"⟩ ⟨"GroupDeskModel", "mixes", "(I)V"⟩) ∈ kb_B := kb_mem (i := 6) (by decide +kernel) (by decide +kernel)
theorem kb_s7 : (Cond.selects "GroupDeskModel" ⟨"GroupDeskModel", "mayBeDone", "(I)V"⟩ ⟨"GroupDeskModel", "mayBeDone", "(I)V"⟩) ∈ kb_B := kb_mem (i := 7) (by decide +kernel) (by decide +kernel)
theorem kb_s8 : (Cond.selects "GroupDeskModel" ⟨"GroupDeskModel", "count", "(I)I"⟩ ⟨"GroupDeskModel", "count", "(I)I"⟩) ∈ kb_B := kb_mem (i := 8) (by decide +kernel) (by decide +kernel)
theorem kb_s9 : (Cond.selects "GroupDeskModel" ⟨"GroupDeskModel", "joinedOf", "(I)I"⟩ ⟨"GroupDeskModel", "joinedOf", "(I)I"⟩) ∈ kb_B := kb_mem (i := 9) (by decide +kernel) (by decide +kernel)
theorem kb_s10 : (Cond.selects "GroupDeskModel" ⟨"GroupDeskModel", "empties", "(I)V"⟩ ⟨"GroupDeskModel", "empties", "(I)V"⟩) ∈ kb_B := kb_mem (i := 10) (by decide +kernel) (by decide +kernel)
theorem kb_s11 : (Cond.selects "GroupDeskModel" ⟨"GroupDeskModel", "takesNote", "()Z"⟩ ⟨"GroupDeskModel", "takesNote", "()Z"⟩) ∈ kb_B := kb_mem (i := 11) (by decide +kernel) (by decide +kernel)
theorem kb_s12 : (Cond.selects "GroupDeskModel" ⟨"GroupDeskModel", "without", "(I)V"⟩ ⟨"GroupDeskModel", "without", "(I)V"⟩) ∈ kb_B := kb_mem (i := 12) (by decide +kernel) (by decide +kernel)
theorem kb_s13 : (Cond.selects "GroupDeskModel" ⟨"GroupDeskModel", "owner", "(II)I"⟩ ⟨"GroupDeskModel", "owner", "(II)I"⟩) ∈ kb_B := kb_mem (i := 13) (by decide +kernel) (by decide +kernel)
theorem kb_s14 : (Cond.selects "GroupDeskModel" ⟨"GroupDeskModel", "tick", "(I)V"⟩ ⟨"GroupDeskModel", "tick", "(I)V"⟩) ∈ kb_B := kb_mem (i := 14) (by decide +kernel) (by decide +kernel)
theorem kb_0 : (Cond.initialized "GroupDeskLaw") ∈ kb_B := kb_mem (i := 15) (by decide +kernel) (by decide +kernel)
theorem kb_1 : (Cond.initialized "GroupDesk") ∈ kb_B := kb_mem (i := 16) (by decide +kernel) (by decide +kernel)
theorem kb_2 : (Cond.initialized "java/lang/Math") ∈ kb_B := kb_mem (i := 17) (by decide +kernel) (by decide +kernel)
theorem kb_3 : (Cond.initialized "GroupDesk$Notebook") ∈ kb_B := kb_mem (i := 18) (by decide +kernel) (by decide +kernel)
theorem kb_4 : (Cond.initialized "GroupDesk$Group") ∈ kb_B := kb_mem (i := 19) (by decide +kernel) (by decide +kernel)
theorem kb_5 : (Cond.initialized "java/util/Arrays") ∈ kb_B := kb_mem (i := 20) (by decide +kernel) (by decide +kernel)
theorem kb_6 : (Cond.initialized "GroupDeskModel") ∈ kb_B := kb_mem (i := 21) (by decide +kernel) (by decide +kernel)
theorem kb_7 : (Cond.initialized "java/lang/Throwable") ∈ kb_B := kb_mem (i := 22) (by decide +kernel) (by decide +kernel)
theorem kb_8 : (Cond.initialized "java/lang/Exception") ∈ kb_B := kb_mem (i := 23) (by decide +kernel) (by decide +kernel)
theorem kb_9 : (Cond.initialized "java/lang/RuntimeException") ∈ kb_B := kb_mem (i := 24) (by decide +kernel) (by decide +kernel)
theorem kb_10 : (Cond.initialized "java/lang/IllegalArgumentException") ∈ kb_B := kb_mem (i := 25) (by decide +kernel) (by decide +kernel)
theorem kb_11 : (Cond.initialized "java/lang/Integer") ∈ kb_B := kb_mem (i := 26) (by decide +kernel) (by decide +kernel)
theorem kb_12 : (Cond.classLink "GroupDeskLaw" 8 "GroupDesk") ∈ kb_B := kb_mem (i := 27) (by decide +kernel) (by decide +kernel)
theorem kb_13 : (Cond.instantiable "GroupDesk" 4) ∈ kb_B := kb_mem (i := 28) (by decide +kernel) (by decide +kernel)
theorem kb_14 : (Cond.methodLink "GroupDeskLaw" 49 ⟨"GroupDesk", "<init>", "(I)V"⟩) ∈ kb_B := kb_mem (i := 29) (by decide +kernel) (by decide +kernel)
theorem kb_15 : (Cond.instanceMethod ⟨"GroupDesk", "<init>", "(I)V"⟩) ∈ kb_B := kb_mem (i := 30) (by decide +kernel) (by decide +kernel)
theorem kb_16 : (Cond.code ⟨"GroupDesk", "<init>", "(I)V"⟩ prog_1_method_1_code 3 none) ∈ kb_B := kb_mem (i := 31) (by decide +kernel) (by decide +kernel)
theorem kb_17 : (Cond.methodLink "GroupDesk" 1 ⟨"java/lang/Object", "<init>", "()V"⟩) ∈ kb_B := kb_mem (i := 32) (by decide +kernel) (by decide +kernel)
theorem kb_18 : (Cond.instanceMethod ⟨"java/lang/Object", "<init>", "()V"⟩) ∈ kb_B := kb_mem (i := 33) (by decide +kernel) (by decide +kernel)
theorem kb_19 : (Cond.code ⟨"java/lang/Object", "<init>", "()V"⟩ object_method_1_code 1 none) ∈ kb_B := kb_mem (i := 34) (by decide +kernel) (by decide +kernel)
theorem kb_20 : (Cond.methodLink "GroupDesk" 7 ⟨"java/lang/Math", "max", "(II)I"⟩) ∈ kb_B := kb_mem (i := 35) (by decide +kernel) (by decide +kernel)
theorem kb_21 : (Cond.static ⟨"java/lang/Math", "max", "(II)I"⟩) ∈ kb_B := kb_mem (i := 36) (by decide +kernel) (by decide +kernel)
theorem kb_22 : (Cond.code ⟨"java/lang/Math", "max", "(II)I"⟩ prog_9_method_65_code 2 (some .int)) ∈ kb_B := kb_mem (i := 37) (by decide +kernel) (by decide +kernel)
theorem kb_23 : (Cond.methodLink "GroupDesk" 15 ⟨"java/lang/Math", "min", "(II)I"⟩) ∈ kb_B := kb_mem (i := 38) (by decide +kernel) (by decide +kernel)
theorem kb_24 : (Cond.static ⟨"java/lang/Math", "min", "(II)I"⟩) ∈ kb_B := kb_mem (i := 39) (by decide +kernel) (by decide +kernel)
theorem kb_25 : (Cond.code ⟨"java/lang/Math", "min", "(II)I"⟩ prog_9_method_69_code 2 (some .int)) ∈ kb_B := kb_mem (i := 40) (by decide +kernel) (by decide +kernel)
theorem kb_26 : (Cond.classLink "GroupDesk" 22 "GroupDesk$Notebook") ∈ kb_B := kb_mem (i := 41) (by decide +kernel) (by decide +kernel)
theorem kb_27 : (Cond.instantiable "GroupDesk$Notebook" 2) ∈ kb_B := kb_mem (i := 42) (by decide +kernel) (by decide +kernel)
theorem kb_28 : (Cond.methodLinkNest "GroupDesk" 24 ⟨"GroupDesk$Notebook", "<init>", "()V"⟩ "GroupDesk") ∈ lw_tbl := List.mem_of_getElem? (i := 43) (by decide +kernel)
theorem kb_29 : (Cond.instanceMethod ⟨"GroupDesk$Notebook", "<init>", "()V"⟩) ∈ kb_B := kb_mem (i := 44) (by decide +kernel) (by decide +kernel)
theorem kb_30 : (Cond.code ⟨"GroupDesk$Notebook", "<init>", "()V"⟩ prog_3_method_1_code 1 none) ∈ kb_B := kb_mem (i := 45) (by decide +kernel) (by decide +kernel)
theorem kb_31 : (Cond.methodLink "GroupDesk$Notebook" 3 ⟨"java/lang/Object", "<init>", "()V"⟩) ∈ kb_B := kb_mem (i := 46) (by decide +kernel) (by decide +kernel)
theorem kb_32 : (Cond.fieldLink "GroupDesk$Notebook" 9 "GroupDesk$Notebook" "left" "I") ∈ kb_B := kb_mem (i := 47) (by decide +kernel) (by decide +kernel)
theorem kb_33 : (Cond.fieldLink "GroupDesk" 116 "GroupDesk$Notebook" "left" "I") ∈ kb_B := kb_mem (i := 48) (by decide +kernel) (by decide +kernel)
theorem kb_34 : (Cond.fieldLink "GroupDesk$Notebook" 15 "GroupDesk$Notebook" "written" "I") ∈ kb_B := kb_mem (i := 49) (by decide +kernel) (by decide +kernel)
theorem kb_35 : (Cond.fieldLink "GroupDesk" 135 "GroupDesk$Notebook" "written" "I") ∈ kb_B := kb_mem (i := 50) (by decide +kernel) (by decide +kernel)
theorem kb_36 : (Cond.lays "GroupDesk$Notebook" "GroupDesk$Notebook" "left" "I") ∈ kb_B := kb_mem (i := 51) (by decide +kernel) (by decide +kernel)
theorem kb_37 : (Cond.soleField "GroupDesk$Notebook" "left") ∈ kb_B := kb_mem (i := 52) (by decide +kernel) (by decide +kernel)
theorem kb_38 : (Cond.lays "GroupDesk$Notebook" "GroupDesk$Notebook" "written" "I") ∈ kb_B := kb_mem (i := 53) (by decide +kernel) (by decide +kernel)
theorem kb_39 : (Cond.soleField "GroupDesk$Notebook" "written") ∈ kb_B := kb_mem (i := 54) (by decide +kernel) (by decide +kernel)
theorem kb_40 : (Cond.superclass "GroupDesk$Notebook" "java/lang/Object") ∈ kb_B := kb_mem (i := 55) (by decide +kernel) (by decide +kernel)
theorem kb_41 : (Cond.classLink "GroupDesk" 29 "GroupDesk$Group") ∈ kb_B := kb_mem (i := 56) (by decide +kernel) (by decide +kernel)
theorem kb_42 : (Cond.arrayOver (.object "GroupDesk$Group")) ∈ lw_tbl := List.mem_of_getElem? (i := 57) (by decide +kernel)
theorem kb_43 : (Cond.instantiable "GroupDesk$Group" 7) ∈ kb_B := kb_mem (i := 58) (by decide +kernel) (by decide +kernel)
theorem kb_44 : (Cond.methodLink "GroupDesk" 35 ⟨"GroupDesk$Group", "<init>", "()V"⟩) ∈ kb_B := kb_mem (i := 59) (by decide +kernel) (by decide +kernel)
theorem kb_45 : (Cond.instanceMethod ⟨"GroupDesk$Group", "<init>", "()V"⟩) ∈ kb_B := kb_mem (i := 60) (by decide +kernel) (by decide +kernel)
theorem kb_46 : (Cond.code ⟨"GroupDesk$Group", "<init>", "()V"⟩ prog_2_method_1_code 1 none) ∈ kb_B := kb_mem (i := 61) (by decide +kernel) (by decide +kernel)
theorem kb_47 : (Cond.methodLink "GroupDesk$Group" 3 ⟨"java/lang/Object", "<init>", "()V"⟩) ∈ kb_B := kb_mem (i := 62) (by decide +kernel) (by decide +kernel)
theorem kb_48 : (Cond.constantLong "GroupDesk$Group" 23 (-1)) ∈ kb_B := kb_mem (i := 63) (by decide +kernel) (by decide +kernel)
theorem kb_49 : (Cond.methodLink "GroupDesk$Group" 25 ⟨"java/util/Arrays", "fill", "([JJ)V"⟩) ∈ kb_B := kb_mem (i := 64) (by decide +kernel) (by decide +kernel)
theorem kb_50 : (Cond.static ⟨"java/util/Arrays", "fill", "([JJ)V"⟩) ∈ kb_B := kb_mem (i := 65) (by decide +kernel) (by decide +kernel)
theorem kb_51 : (Cond.code ⟨"java/util/Arrays", "fill", "([JJ)V"⟩ prog_13_method_101_code 5 none) ∈ kb_B := kb_mem (i := 66) (by decide +kernel) (by decide +kernel)
theorem kb_52 : (Cond.fieldLink "GroupDesk" 58 "GroupDesk$Group" "generation" "I") ∈ kb_B := kb_mem (i := 67) (by decide +kernel) (by decide +kernel)
theorem kb_53 : (Cond.fieldLink "GroupDesk$Group" 64 "GroupDesk$Group" "generation" "I") ∈ kb_B := kb_mem (i := 68) (by decide +kernel) (by decide +kernel)
theorem kb_54 : (Cond.fieldLink "GroupDesk$Group" 9 "GroupDesk$Group" "state" "I") ∈ kb_B := kb_mem (i := 69) (by decide +kernel) (by decide +kernel)
theorem kb_55 : (Cond.fieldLink "GroupDesk" 55 "GroupDesk$Group" "state" "I") ∈ kb_B := kb_mem (i := 70) (by decide +kernel) (by decide +kernel)
theorem kb_56 : (Cond.fieldLink "GroupDesk$Group" 31 "GroupDesk$Group" "members" "I") ∈ kb_B := kb_mem (i := 71) (by decide +kernel) (by decide +kernel)
theorem kb_57 : (Cond.fieldLink "GroupDesk" 97 "GroupDesk$Group" "members" "I") ∈ kb_B := kb_mem (i := 72) (by decide +kernel) (by decide +kernel)
theorem kb_58 : (Cond.fieldLink "GroupDesk$Group" 34 "GroupDesk$Group" "joined" "I") ∈ kb_B := kb_mem (i := 73) (by decide +kernel) (by decide +kernel)
theorem kb_59 : (Cond.fieldLink "GroupDesk" 100 "GroupDesk$Group" "joined" "I") ∈ kb_B := kb_mem (i := 74) (by decide +kernel) (by decide +kernel)
theorem kb_60 : (Cond.fieldLink "GroupDesk$Group" 37 "GroupDesk$Group" "limit" "I") ∈ kb_B := kb_mem (i := 75) (by decide +kernel) (by decide +kernel)
theorem kb_61 : (Cond.fieldLink "GroupDesk$Group" 15 "GroupDesk$Group" "heard" "[I") ∈ kb_B := kb_mem (i := 76) (by decide +kernel) (by decide +kernel)
theorem kb_62 : (Cond.fieldLink "GroupDesk" 68 "GroupDesk$Group" "heard" "[I") ∈ kb_B := kb_mem (i := 77) (by decide +kernel) (by decide +kernel)
theorem kb_63 : (Cond.fieldLink "GroupDesk$Group" 19 "GroupDesk$Group" "offsets" "[J") ∈ kb_B := kb_mem (i := 78) (by decide +kernel) (by decide +kernel)
theorem kb_64 : (Cond.fieldLink "GroupDesk" 93 "GroupDesk$Group" "offsets" "[J") ∈ kb_B := kb_mem (i := 79) (by decide +kernel) (by decide +kernel)
theorem kb_65 : (Cond.lays "GroupDesk$Group" "GroupDesk$Group" "generation" "I") ∈ kb_B := kb_mem (i := 80) (by decide +kernel) (by decide +kernel)
theorem kb_66 : (Cond.soleField "GroupDesk$Group" "generation") ∈ kb_B := kb_mem (i := 81) (by decide +kernel) (by decide +kernel)
theorem kb_67 : (Cond.lays "GroupDesk$Group" "GroupDesk$Group" "state" "I") ∈ kb_B := kb_mem (i := 82) (by decide +kernel) (by decide +kernel)
theorem kb_68 : (Cond.soleField "GroupDesk$Group" "state") ∈ kb_B := kb_mem (i := 83) (by decide +kernel) (by decide +kernel)
theorem kb_69 : (Cond.lays "GroupDesk$Group" "GroupDesk$Group" "members" "I") ∈ kb_B := kb_mem (i := 84) (by decide +kernel) (by decide +kernel)
theorem kb_70 : (Cond.soleField "GroupDesk$Group" "members") ∈ kb_B := kb_mem (i := 85) (by decide +kernel) (by decide +kernel)
theorem kb_71 : (Cond.lays "GroupDesk$Group" "GroupDesk$Group" "joined" "I") ∈ kb_B := kb_mem (i := 86) (by decide +kernel) (by decide +kernel)
theorem kb_72 : (Cond.soleField "GroupDesk$Group" "joined") ∈ kb_B := kb_mem (i := 87) (by decide +kernel) (by decide +kernel)
theorem kb_73 : (Cond.lays "GroupDesk$Group" "GroupDesk$Group" "limit" "I") ∈ kb_B := kb_mem (i := 88) (by decide +kernel) (by decide +kernel)
theorem kb_74 : (Cond.soleField "GroupDesk$Group" "limit") ∈ kb_B := kb_mem (i := 89) (by decide +kernel) (by decide +kernel)
theorem kb_75 : (Cond.laysFinal "GroupDesk$Group" "GroupDesk$Group" "heard" "[I") ∈ kb_B := kb_mem (i := 90) (by decide +kernel) (by decide +kernel)
theorem kb_76 : (Cond.soleField "GroupDesk$Group" "heard") ∈ kb_B := kb_mem (i := 91) (by decide +kernel) (by decide +kernel)
theorem kb_77 : (Cond.laysFinal "GroupDesk$Group" "GroupDesk$Group" "offsets" "[J") ∈ kb_B := kb_mem (i := 92) (by decide +kernel) (by decide +kernel)
theorem kb_78 : (Cond.soleField "GroupDesk$Group" "offsets") ∈ kb_B := kb_mem (i := 93) (by decide +kernel) (by decide +kernel)
theorem kb_79 : (Cond.superclass "GroupDesk$Group" "java/lang/Object") ∈ kb_B := kb_mem (i := 94) (by decide +kernel) (by decide +kernel)
theorem kb_80 : (Cond.arrayClass .int) ∈ kb_B := kb_mem (i := 95) (by decide +kernel) (by decide +kernel)
theorem kb_81 : (Cond.arrayClass .long) ∈ kb_B := kb_mem (i := 96) (by decide +kernel) (by decide +kernel)
theorem kb_82 : (Cond.fieldLink "GroupDesk" 18 "GroupDesk" "logs" "I") ∈ kb_B := kb_mem (i := 97) (by decide +kernel) (by decide +kernel)
theorem kb_83 : (Cond.fieldLink "GroupDesk" 31 "GroupDesk" "groups" "[LGroupDesk$Group;") ∈ kb_B := kb_mem (i := 98) (by decide +kernel) (by decide +kernel)
theorem kb_84 : (Cond.fieldLink "GroupDesk" 25 "GroupDesk" "notebook" "LGroupDesk$Notebook;") ∈ kb_B := kb_mem (i := 99) (by decide +kernel) (by decide +kernel)
theorem kb_85 : (Cond.fieldLink "GroupDesk" 44 "GroupDesk" "time" "I") ∈ kb_B := kb_mem (i := 100) (by decide +kernel) (by decide +kernel)
theorem kb_86 : (Cond.laysFinal "GroupDesk" "GroupDesk" "logs" "I") ∈ kb_B := kb_mem (i := 101) (by decide +kernel) (by decide +kernel)
theorem kb_87 : (Cond.soleField "GroupDesk" "logs") ∈ kb_B := kb_mem (i := 102) (by decide +kernel) (by decide +kernel)
theorem kb_88 : (Cond.laysFinal "GroupDesk" "GroupDesk" "groups" "[LGroupDesk$Group;") ∈ kb_B := kb_mem (i := 103) (by decide +kernel) (by decide +kernel)
theorem kb_89 : (Cond.soleField "GroupDesk" "groups") ∈ kb_B := kb_mem (i := 104) (by decide +kernel) (by decide +kernel)
theorem kb_90 : (Cond.laysFinal "GroupDesk" "GroupDesk" "notebook" "LGroupDesk$Notebook;") ∈ kb_B := kb_mem (i := 105) (by decide +kernel) (by decide +kernel)
theorem kb_91 : (Cond.soleField "GroupDesk" "notebook") ∈ kb_B := kb_mem (i := 106) (by decide +kernel) (by decide +kernel)
theorem kb_92 : (Cond.lays "GroupDesk" "GroupDesk" "time" "I") ∈ kb_B := kb_mem (i := 107) (by decide +kernel) (by decide +kernel)
theorem kb_93 : (Cond.soleField "GroupDesk" "time") ∈ kb_B := kb_mem (i := 108) (by decide +kernel) (by decide +kernel)
theorem kb_94 : (Cond.superclass "GroupDesk" "java/lang/Object") ∈ kb_B := kb_mem (i := 109) (by decide +kernel) (by decide +kernel)
theorem kb_95 : (Cond.methodLink "GroupDeskLaw" 89 ⟨"GroupDesk", "restart", "()I"⟩) ∈ kb_B := kb_mem (i := 110) (by decide +kernel) (by decide +kernel)
theorem kb_96 : (Cond.instanceMethod ⟨"GroupDesk", "restart", "()I"⟩) ∈ kb_B := kb_mem (i := 111) (by decide +kernel) (by decide +kernel)
theorem kb_97 : (Cond.selects "GroupDesk" ⟨"GroupDesk", "restart", "()I"⟩ ⟨"GroupDesk", "restart", "()I"⟩) ∈ kb_B := kb_mem (i := 112) (by decide +kernel) (by decide +kernel)
theorem kb_98 : (Cond.code ⟨"GroupDesk", "restart", "()I"⟩ prog_1_method_10_code 3 (some .int)) ∈ kb_B := kb_mem (i := 113) (by decide +kernel) (by decide +kernel)
theorem kb_99 : (Cond.methodLink "GroupDesk" 119 ⟨"java/lang/Integer", "bitCount", "(I)I"⟩) ∈ kb_B := kb_mem (i := 114) (by decide +kernel) (by decide +kernel)
theorem kb_100 : (Cond.static ⟨"java/lang/Integer", "bitCount", "(I)I"⟩) ∈ kb_B := kb_mem (i := 115) (by decide +kernel) (by decide +kernel)
theorem kb_101 : (Cond.code ⟨"java/lang/Integer", "bitCount", "(I)I"⟩ prog_8_method_49_code 1 (some .int)) ∈ kb_B := kb_mem (i := 116) (by decide +kernel) (by decide +kernel)
theorem kb_102 : (Cond.constant "java/lang/Integer" 265 1431655765) ∈ kb_B := kb_mem (i := 117) (by decide +kernel) (by decide +kernel)
theorem kb_103 : (Cond.constant "java/lang/Integer" 266 858993459) ∈ kb_B := kb_mem (i := 118) (by decide +kernel) (by decide +kernel)
theorem kb_104 : (Cond.constant "java/lang/Integer" 267 252645135) ∈ kb_B := kb_mem (i := 119) (by decide +kernel) (by decide +kernel)
theorem kb_105 : (Cond.methodLink "GroupDesk" 124 ⟨"GroupDesk$Group", "clear", "()V"⟩) ∈ kb_B := kb_mem (i := 120) (by decide +kernel) (by decide +kernel)
theorem kb_106 : (Cond.instanceMethod ⟨"GroupDesk$Group", "clear", "()V"⟩) ∈ kb_B := kb_mem (i := 121) (by decide +kernel) (by decide +kernel)
theorem kb_107 : (Cond.selects "GroupDesk$Group" ⟨"GroupDesk$Group", "clear", "()V"⟩ ⟨"GroupDesk$Group", "clear", "()V"⟩) ∈ kb_B := kb_mem (i := 122) (by decide +kernel) (by decide +kernel)
theorem kb_108 : (Cond.code ⟨"GroupDesk$Group", "clear", "()V"⟩ prog_2_method_4_code 1 none) ∈ kb_B := kb_mem (i := 123) (by decide +kernel) (by decide +kernel)
theorem kb_109 : (Cond.methodLink "GroupDeskLaw" 96 ⟨"GroupDesk", "notes", "()I"⟩) ∈ kb_B := kb_mem (i := 124) (by decide +kernel) (by decide +kernel)
theorem kb_110 : (Cond.instanceMethod ⟨"GroupDesk", "notes", "()I"⟩) ∈ kb_B := kb_mem (i := 125) (by decide +kernel) (by decide +kernel)
theorem kb_111 : (Cond.selects "GroupDesk" ⟨"GroupDesk", "notes", "()I"⟩ ⟨"GroupDesk", "notes", "()I"⟩) ∈ kb_B := kb_mem (i := 126) (by decide +kernel) (by decide +kernel)
theorem kb_112 : (Cond.code ⟨"GroupDesk", "notes", "()I"⟩ prog_1_method_12_code 1 (some .int)) ∈ kb_B := kb_mem (i := 127) (by decide +kernel) (by decide +kernel)
theorem kb_113 : (Cond.methodLink "GroupDeskLaw" 43 ⟨"GroupDeskLaw", "cell", "([II)I"⟩) ∈ kb_B := kb_mem (i := 128) (by decide +kernel) (by decide +kernel)
theorem kb_114 : (Cond.static ⟨"GroupDeskLaw", "cell", "([II)I"⟩) ∈ kb_B := kb_mem (i := 129) (by decide +kernel) (by decide +kernel)
theorem kb_115 : (Cond.code ⟨"GroupDeskLaw", "cell", "([II)I"⟩ method_2_code 2 (some .int)) ∈ kb_B := kb_mem (i := 130) (by decide +kernel) (by decide +kernel)
theorem kb_116 : (Cond.methodLink "GroupDeskLaw" 55 ⟨"GroupDeskLaw", "join", "(LGroupDesk;II[J)I"⟩) ∈ kb_B := kb_mem (i := 131) (by decide +kernel) (by decide +kernel)
theorem kb_117 : (Cond.static ⟨"GroupDeskLaw", "join", "(LGroupDesk;II[J)I"⟩) ∈ kb_B := kb_mem (i := 132) (by decide +kernel) (by decide +kernel)
theorem kb_118 : (Cond.codeWith ⟨"GroupDeskLaw", "join", "(LGroupDesk;II[J)I"⟩ method_3_code 5 (some .int) [(0, 10, 13, 13)]) ∈ kb_B := kb_mem (i := 133) (by decide +kernel) (by decide +kernel)
theorem kb_119 : (Cond.classLink "GroupDeskLaw" 13 "java/lang/IllegalArgumentException") ∈ kb_B := kb_mem (i := 134) (by decide +kernel) (by decide +kernel)
theorem kb_120 : (Cond.methodLink "GroupDeskLaw" 7 ⟨"GroupDesk", "join", "(II)I"⟩) ∈ kb_B := kb_mem (i := 135) (by decide +kernel) (by decide +kernel)
theorem kb_121 : (Cond.instanceMethod ⟨"GroupDesk", "join", "(II)I"⟩) ∈ kb_B := kb_mem (i := 136) (by decide +kernel) (by decide +kernel)
theorem kb_122 : (Cond.selects "GroupDesk" ⟨"GroupDesk", "join", "(II)I"⟩ ⟨"GroupDesk", "join", "(II)I"⟩) ∈ kb_B := kb_mem (i := 137) (by decide +kernel) (by decide +kernel)
theorem kb_123 : (Cond.code ⟨"GroupDesk", "join", "(II)I"⟩ prog_1_method_2_code 4 (some .int)) ∈ kb_B := kb_mem (i := 138) (by decide +kernel) (by decide +kernel)
theorem kb_124 : (Cond.methodLink "GroupDesk" 36 ⟨"GroupDesk", "groupAt", "(I)LGroupDesk$Group;"⟩) ∈ kb_B := kb_mem (i := 139) (by decide +kernel) (by decide +kernel)
theorem kb_125 : (Cond.privateMethod ⟨"GroupDesk", "groupAt", "(I)LGroupDesk$Group;"⟩) ∈ lw_tbl := List.mem_of_getElem? (i := 140) (by decide +kernel)
theorem kb_126 : (Cond.instanceMethod ⟨"GroupDesk", "groupAt", "(I)LGroupDesk$Group;"⟩) ∈ kb_B := kb_mem (i := 141) (by decide +kernel) (by decide +kernel)
theorem kb_127 : (Cond.code ⟨"GroupDesk", "groupAt", "(I)LGroupDesk$Group;"⟩ prog_1_method_14_code 2 (some (.object "GroupDesk$Group"))) ∈ kb_B := kb_mem (i := 142) (by decide +kernel) (by decide +kernel)
theorem kb_128 : (Cond.classLink "GroupDesk" 78 "java/lang/IllegalArgumentException") ∈ kb_B := kb_mem (i := 143) (by decide +kernel) (by decide +kernel)
theorem kb_129 : (Cond.instantiable "java/lang/IllegalArgumentException" 6) ∈ kb_B := kb_mem (i := 144) (by decide +kernel) (by decide +kernel)
theorem kb_130 : (Cond.castable "java/lang/IllegalArgumentException" "java/lang/IllegalArgumentException") ∈ lw_tbl := List.mem_of_getElem? (i := 145) (by decide +kernel)
theorem kb_131 : (Cond.declares ⟨"java/lang/RuntimeException", "<init>", "()V"⟩) ∈ lw_tbl := List.mem_of_getElem? (i := 146) (by decide +kernel)
theorem kb_132 : (Cond.declares ⟨"java/lang/RuntimeException", "<init>", "(Ljava/lang/String;)V"⟩) ∈ lw_tbl := List.mem_of_getElem? (i := 147) (by decide +kernel)
theorem kb_133 : (Cond.declares ⟨"java/lang/Exception", "<init>", "()V"⟩) ∈ lw_tbl := List.mem_of_getElem? (i := 148) (by decide +kernel)
theorem kb_134 : (Cond.declares ⟨"java/lang/Exception", "<init>", "(Ljava/lang/String;)V"⟩) ∈ lw_tbl := List.mem_of_getElem? (i := 149) (by decide +kernel)
theorem kb_135 : (Cond.declares ⟨"java/lang/Throwable", "<init>", "()V"⟩) ∈ lw_tbl := List.mem_of_getElem? (i := 150) (by decide +kernel)
theorem kb_136 : (Cond.declares ⟨"java/lang/Throwable", "<init>", "(Ljava/lang/String;)V"⟩) ∈ lw_tbl := List.mem_of_getElem? (i := 151) (by decide +kernel)
theorem kb_137 : (Cond.selects "java/lang/IllegalArgumentException" ⟨"java/lang/Throwable", "fillInStackTrace", "(I)Ljava/lang/Throwable;"⟩ ⟨"java/lang/Throwable", "fillInStackTrace", "(I)Ljava/lang/Throwable;"⟩) ∈ kb_B := kb_mem (i := 152) (by decide +kernel) (by decide +kernel)
theorem kb_138 : (Cond.selects "java/lang/IllegalArgumentException" ⟨"java/lang/Throwable", "fillInStackTrace", "()Ljava/lang/Throwable;"⟩ ⟨"java/lang/Throwable", "fillInStackTrace", "()Ljava/lang/Throwable;"⟩) ∈ kb_B := kb_mem (i := 153) (by decide +kernel) (by decide +kernel)
theorem kb_139 : (Cond.lays "java/lang/IllegalArgumentException" "java/lang/Throwable" "cause" "Ljava/lang/Throwable;") ∈ kb_B := kb_mem (i := 154) (by decide +kernel) (by decide +kernel)
theorem kb_140 : (Cond.lays "java/lang/Throwable" "java/lang/Throwable" "cause" "Ljava/lang/Throwable;") ∈ kb_B := kb_mem (i := 155) (by decide +kernel) (by decide +kernel)
theorem kb_141 : (Cond.lays "java/lang/IllegalArgumentException" "java/lang/Throwable" "stackTrace" "[Ljava/lang/StackTraceElement;") ∈ kb_B := kb_mem (i := 156) (by decide +kernel) (by decide +kernel)
theorem kb_142 : (Cond.lays "java/lang/Throwable" "java/lang/Throwable" "stackTrace" "[Ljava/lang/StackTraceElement;") ∈ kb_B := kb_mem (i := 157) (by decide +kernel) (by decide +kernel)
theorem kb_143 : (Cond.lays "java/lang/IllegalArgumentException" "java/lang/Throwable" "suppressedExceptions" "Ljava/util/List;") ∈ kb_B := kb_mem (i := 158) (by decide +kernel) (by decide +kernel)
theorem kb_144 : (Cond.lays "java/lang/Throwable" "java/lang/Throwable" "suppressedExceptions" "Ljava/util/List;") ∈ kb_B := kb_mem (i := 159) (by decide +kernel) (by decide +kernel)
theorem kb_145 : (Cond.lays "java/lang/IllegalArgumentException" "java/lang/Throwable" "detailMessage" "Ljava/lang/String;") ∈ kb_B := kb_mem (i := 160) (by decide +kernel) (by decide +kernel)
theorem kb_146 : (Cond.lays "java/lang/Throwable" "java/lang/Throwable" "detailMessage" "Ljava/lang/String;") ∈ kb_B := kb_mem (i := 161) (by decide +kernel) (by decide +kernel)
theorem kb_147 : (Cond.lays "java/lang/IllegalArgumentException" "java/lang/Throwable" "backtrace" "Ljava/lang/Object;") ∈ kb_B := kb_mem (i := 162) (by decide +kernel) (by decide +kernel)
theorem kb_148 : (Cond.lays "java/lang/Throwable" "java/lang/Throwable" "backtrace" "Ljava/lang/Object;") ∈ kb_B := kb_mem (i := 163) (by decide +kernel) (by decide +kernel)
theorem kb_149 : (Cond.fieldLink "java/lang/Throwable" 198 "java/lang/Throwable" "backtrace" "Ljava/lang/Object;") ∈ kb_B := kb_mem (i := 164) (by decide +kernel) (by decide +kernel)
theorem kb_150 : (Cond.superclass "java/lang/Throwable" "java/lang/Object") ∈ kb_B := kb_mem (i := 165) (by decide +kernel) (by decide +kernel)
theorem kb_151 : (Cond.instanceMethod ⟨"java/lang/Throwable", "<init>", "()V"⟩) ∈ kb_B := kb_mem (i := 166) (by decide +kernel) (by decide +kernel)
theorem kb_152 : (Cond.code ⟨"java/lang/Throwable", "<init>", "()V"⟩ prog_12_method_1_code 1 none) ∈ kb_B := kb_mem (i := 167) (by decide +kernel) (by decide +kernel)
theorem kb_153 : (Cond.methodLink "java/lang/Throwable" 1 ⟨"java/lang/Object", "<init>", "()V"⟩) ∈ kb_B := kb_mem (i := 168) (by decide +kernel) (by decide +kernel)
theorem kb_154 : (Cond.fieldLink "java/lang/Throwable" 13 "java/lang/Throwable" "UNASSIGNED_STACK" "[Ljava/lang/StackTraceElement;") ∈ kb_B := kb_mem (i := 169) (by decide +kernel) (by decide +kernel)
theorem kb_155 : (Cond.laysStatic "java/lang/Throwable" "UNASSIGNED_STACK" "[Ljava/lang/StackTraceElement;") ∈ lw_tbl := List.mem_of_getElem? (i := 170) (by decide +kernel)
theorem kb_156 : (Cond.fieldLink "java/lang/Throwable" 20 "java/lang/Throwable" "SUPPRESSED_SENTINEL" "Ljava/util/List;") ∈ kb_B := kb_mem (i := 171) (by decide +kernel) (by decide +kernel)
theorem kb_157 : (Cond.laysStatic "java/lang/Throwable" "SUPPRESSED_SENTINEL" "Ljava/util/List;") ∈ lw_tbl := List.mem_of_getElem? (i := 172) (by decide +kernel)
theorem kb_158 : (Cond.methodLink "java/lang/Throwable" 27 ⟨"java/lang/Throwable", "fillInStackTrace", "()Ljava/lang/Throwable;"⟩) ∈ kb_B := kb_mem (i := 173) (by decide +kernel) (by decide +kernel)
theorem kb_159 : (Cond.instanceMethod ⟨"java/lang/Throwable", "fillInStackTrace", "()Ljava/lang/Throwable;"⟩) ∈ kb_B := kb_mem (i := 174) (by decide +kernel) (by decide +kernel)
theorem kb_160 : (Cond.sameMethod "java/lang/Throwable" "java/lang/Throwable" "fillInStackTrace" "()Ljava/lang/Throwable;") ∈ kb_B := kb_mem (i := 175) (by decide +kernel) (by decide +kernel)
theorem kb_161 : (Cond.codeSync ⟨"java/lang/Throwable", "fillInStackTrace", "()Ljava/lang/Throwable;"⟩ prog_12_method_18_code 1 (some (.object "java/lang/Throwable"))) ∈ kb_B := kb_mem (i := 176) (by decide +kernel) (by decide +kernel)
theorem kb_162 : (Cond.methodLink "java/lang/Throwable" 202 ⟨"java/lang/Throwable", "fillInStackTrace", "(I)Ljava/lang/Throwable;"⟩) ∈ kb_B := kb_mem (i := 177) (by decide +kernel) (by decide +kernel)
theorem kb_163 : (Cond.privateMethod ⟨"java/lang/Throwable", "fillInStackTrace", "(I)Ljava/lang/Throwable;"⟩) ∈ lw_tbl := List.mem_of_getElem? (i := 178) (by decide +kernel)
theorem kb_164 : (Cond.instanceMethod ⟨"java/lang/Throwable", "fillInStackTrace", "(I)Ljava/lang/Throwable;"⟩) ∈ kb_B := kb_mem (i := 179) (by decide +kernel) (by decide +kernel)
theorem kb_165 : (Cond.instantiable "java/lang/Throwable" 6) ∈ kb_B := kb_mem (i := 180) (by decide +kernel) (by decide +kernel)
theorem kb_166 : (Cond.native ⟨"java/lang/Throwable", "fillInStackTrace", "(I)Ljava/lang/Throwable;"⟩) ∈ kb_B := kb_mem (i := 181) (by decide +kernel) (by decide +kernel)
theorem kb_167 : (Cond.stringRef "GroupDesk" 141 "there is no such group") ∈ lw_tbl := List.mem_of_getElem? (i := 182) (by decide +kernel)
theorem kb_168 : (Cond.methodLink "GroupDesk" 82 ⟨"java/lang/IllegalArgumentException", "<init>", "(Ljava/lang/String;)V"⟩) ∈ kb_B := kb_mem (i := 183) (by decide +kernel) (by decide +kernel)
theorem kb_169 : (Cond.instanceMethod ⟨"java/lang/IllegalArgumentException", "<init>", "(Ljava/lang/String;)V"⟩) ∈ kb_B := kb_mem (i := 184) (by decide +kernel) (by decide +kernel)
theorem kb_170 : (Cond.code ⟨"java/lang/IllegalArgumentException", "<init>", "(Ljava/lang/String;)V"⟩ prog_7_method_2_code 2 none) ∈ kb_B := kb_mem (i := 185) (by decide +kernel) (by decide +kernel)
theorem kb_171 : (Cond.methodLink "java/lang/IllegalArgumentException" 7 ⟨"java/lang/RuntimeException", "<init>", "(Ljava/lang/String;)V"⟩) ∈ kb_B := kb_mem (i := 186) (by decide +kernel) (by decide +kernel)
theorem kb_172 : (Cond.instanceMethod ⟨"java/lang/RuntimeException", "<init>", "(Ljava/lang/String;)V"⟩) ∈ kb_B := kb_mem (i := 187) (by decide +kernel) (by decide +kernel)
theorem kb_173 : (Cond.code ⟨"java/lang/RuntimeException", "<init>", "(Ljava/lang/String;)V"⟩ prog_10_method_2_code 2 none) ∈ kb_B := kb_mem (i := 188) (by decide +kernel) (by decide +kernel)
theorem kb_174 : (Cond.methodLink "java/lang/RuntimeException" 7 ⟨"java/lang/Exception", "<init>", "(Ljava/lang/String;)V"⟩) ∈ kb_B := kb_mem (i := 189) (by decide +kernel) (by decide +kernel)
theorem kb_175 : (Cond.instanceMethod ⟨"java/lang/Exception", "<init>", "(Ljava/lang/String;)V"⟩) ∈ kb_B := kb_mem (i := 190) (by decide +kernel) (by decide +kernel)
theorem kb_176 : (Cond.code ⟨"java/lang/Exception", "<init>", "(Ljava/lang/String;)V"⟩ prog_6_method_2_code 2 none) ∈ kb_B := kb_mem (i := 191) (by decide +kernel) (by decide +kernel)
theorem kb_177 : (Cond.methodLink "java/lang/Exception" 7 ⟨"java/lang/Throwable", "<init>", "(Ljava/lang/String;)V"⟩) ∈ kb_B := kb_mem (i := 192) (by decide +kernel) (by decide +kernel)
theorem kb_178 : (Cond.instanceMethod ⟨"java/lang/Throwable", "<init>", "(Ljava/lang/String;)V"⟩) ∈ kb_B := kb_mem (i := 193) (by decide +kernel) (by decide +kernel)
theorem kb_179 : (Cond.code ⟨"java/lang/Throwable", "<init>", "(Ljava/lang/String;)V"⟩ prog_12_method_2_code 2 none) ∈ kb_B := kb_mem (i := 194) (by decide +kernel) (by decide +kernel)
theorem kb_181 : (Cond.fieldLink "java/lang/Throwable" 31 "java/lang/Throwable" "detailMessage" "Ljava/lang/String;") ∈ kb_B := kb_mem (i := 196) (by decide +kernel) (by decide +kernel)
theorem kb_182 : (Cond.fieldLink "java/lang/Throwable" 7 "java/lang/Throwable" "cause" "Ljava/lang/Throwable;") ∈ kb_B := kb_mem (i := 197) (by decide +kernel) (by decide +kernel)
theorem kb_183 : (Cond.fieldLink "java/lang/Throwable" 17 "java/lang/Throwable" "stackTrace" "[Ljava/lang/StackTraceElement;") ∈ kb_B := kb_mem (i := 198) (by decide +kernel) (by decide +kernel)
theorem kb_184 : (Cond.fieldLink "java/lang/Throwable" 24 "java/lang/Throwable" "suppressedExceptions" "Ljava/util/List;") ∈ kb_B := kb_mem (i := 199) (by decide +kernel) (by decide +kernel)
theorem kb_185 : (Cond.soleField "java/lang/Throwable" "backtrace") ∈ kb_B := kb_mem (i := 200) (by decide +kernel) (by decide +kernel)
theorem kb_186 : (Cond.soleField "java/lang/Throwable" "detailMessage") ∈ kb_B := kb_mem (i := 201) (by decide +kernel) (by decide +kernel)
theorem kb_187 : (Cond.soleField "java/lang/Throwable" "cause") ∈ kb_B := kb_mem (i := 202) (by decide +kernel) (by decide +kernel)
theorem kb_188 : (Cond.soleField "java/lang/Throwable" "stackTrace") ∈ kb_B := kb_mem (i := 203) (by decide +kernel) (by decide +kernel)
theorem kb_189 : (Cond.lays "java/lang/IllegalArgumentException" "java/lang/Throwable" "depth" "I") ∈ kb_B := kb_mem (i := 204) (by decide +kernel) (by decide +kernel)
theorem kb_190 : (Cond.soleField "java/lang/Throwable" "depth") ∈ kb_B := kb_mem (i := 205) (by decide +kernel) (by decide +kernel)
theorem kb_191 : (Cond.soleField "java/lang/Throwable" "suppressedExceptions") ∈ kb_B := kb_mem (i := 206) (by decide +kernel) (by decide +kernel)
theorem kb_192 : (Cond.superclass "java/lang/IllegalArgumentException" "java/lang/RuntimeException") ∈ kb_B := kb_mem (i := 207) (by decide +kernel) (by decide +kernel)
theorem kb_193 : (Cond.arrayClass .byte) ∈ kb_B := kb_mem (i := 208) (by decide +kernel) (by decide +kernel)
theorem kb_194 : (Cond.methodLink "GroupDesk" 40 ⟨"GroupDesk", "checkMember", "(I)V"⟩) ∈ kb_B := kb_mem (i := 209) (by decide +kernel) (by decide +kernel)
theorem kb_195 : (Cond.privateMethod ⟨"GroupDesk", "checkMember", "(I)V"⟩) ∈ lw_tbl := List.mem_of_getElem? (i := 210) (by decide +kernel)
theorem kb_196 : (Cond.instanceMethod ⟨"GroupDesk", "checkMember", "(I)V"⟩) ∈ kb_B := kb_mem (i := 211) (by decide +kernel) (by decide +kernel)
theorem kb_197 : (Cond.code ⟨"GroupDesk", "checkMember", "(I)V"⟩ prog_1_method_15_code 2 none) ∈ kb_B := kb_mem (i := 212) (by decide +kernel) (by decide +kernel)
theorem kb_198 : (Cond.stringRef "GroupDesk" 143 "there is no such member") ∈ lw_tbl := List.mem_of_getElem? (i := 213) (by decide +kernel)
theorem kb_199 : (Cond.methodLink "GroupDesk" 47 ⟨"GroupDesk$Group", "takeIn", "(II)V"⟩) ∈ kb_B := kb_mem (i := 214) (by decide +kernel) (by decide +kernel)
theorem kb_200 : (Cond.instanceMethod ⟨"GroupDesk$Group", "takeIn", "(II)V"⟩) ∈ kb_B := kb_mem (i := 215) (by decide +kernel) (by decide +kernel)
theorem kb_201 : (Cond.selects "GroupDesk$Group" ⟨"GroupDesk$Group", "takeIn", "(II)V"⟩ ⟨"GroupDesk$Group", "takeIn", "(II)V"⟩) ∈ kb_B := kb_mem (i := 216) (by decide +kernel) (by decide +kernel)
theorem kb_202 : (Cond.code ⟨"GroupDesk$Group", "takeIn", "(II)V"⟩ prog_2_method_6_code 3 none) ∈ kb_B := kb_mem (i := 217) (by decide +kernel) (by decide +kernel)
theorem kb_203 : (Cond.methodLink "GroupDesk$Group" 40 ⟨"GroupDesk$Group", "mix", "(I)V"⟩) ∈ kb_B := kb_mem (i := 218) (by decide +kernel) (by decide +kernel)
theorem kb_204 : (Cond.instanceMethod ⟨"GroupDesk$Group", "mix", "(I)V"⟩) ∈ kb_B := kb_mem (i := 219) (by decide +kernel) (by decide +kernel)
theorem kb_205 : (Cond.selects "GroupDesk$Group" ⟨"GroupDesk$Group", "mix", "(I)V"⟩ ⟨"GroupDesk$Group", "mix", "(I)V"⟩) ∈ kb_B := kb_mem (i := 220) (by decide +kernel) (by decide +kernel)
theorem kb_206 : (Cond.code ⟨"GroupDesk$Group", "mix", "(I)V"⟩ prog_2_method_5_code 2 none) ∈ kb_B := kb_mem (i := 221) (by decide +kernel) (by decide +kernel)
theorem kb_207 : (Cond.methodLink "GroupDesk" 51 ⟨"GroupDesk$Group", "finishMixing", "(ILGroupDesk$Notebook;)V"⟩) ∈ kb_B := kb_mem (i := 222) (by decide +kernel) (by decide +kernel)
theorem kb_208 : (Cond.instanceMethod ⟨"GroupDesk$Group", "finishMixing", "(ILGroupDesk$Notebook;)V"⟩) ∈ kb_B := kb_mem (i := 223) (by decide +kernel) (by decide +kernel)
theorem kb_209 : (Cond.selects "GroupDesk$Group" ⟨"GroupDesk$Group", "finishMixing", "(ILGroupDesk$Notebook;)V"⟩ ⟨"GroupDesk$Group", "finishMixing", "(ILGroupDesk$Notebook;)V"⟩) ∈ kb_B := kb_mem (i := 224) (by decide +kernel) (by decide +kernel)
theorem kb_210 : (Cond.code ⟨"GroupDesk$Group", "finishMixing", "(ILGroupDesk$Notebook;)V"⟩ prog_2_method_9_code 3 none) ∈ kb_B := kb_mem (i := 225) (by decide +kernel) (by decide +kernel)
theorem kb_211 : (Cond.methodLink "GroupDesk$Group" 44 ⟨"GroupDesk$Group", "clear", "()V"⟩) ∈ kb_B := kb_mem (i := 226) (by decide +kernel) (by decide +kernel)
theorem kb_212 : (Cond.methodLink "GroupDesk$Group" 55 ⟨"GroupDesk$Notebook", "write", "()Z"⟩) ∈ kb_B := kb_mem (i := 227) (by decide +kernel) (by decide +kernel)
theorem kb_213 : (Cond.instanceMethod ⟨"GroupDesk$Notebook", "write", "()Z"⟩) ∈ kb_B := kb_mem (i := 228) (by decide +kernel) (by decide +kernel)
theorem kb_214 : (Cond.selects "GroupDesk$Notebook" ⟨"GroupDesk$Notebook", "write", "()Z"⟩ ⟨"GroupDesk$Notebook", "write", "()Z"⟩) ∈ kb_B := kb_mem (i := 229) (by decide +kernel) (by decide +kernel)
theorem kb_215 : (Cond.code ⟨"GroupDesk$Notebook", "write", "()Z"⟩ prog_3_method_2_code 1 (some .boolean)) ∈ kb_B := kb_mem (i := 230) (by decide +kernel) (by decide +kernel)
theorem kb_216 : (Cond.methodLink "GroupDesk$Group" 61 ⟨"GroupDesk$Group", "settle", "(I)V"⟩) ∈ kb_B := kb_mem (i := 231) (by decide +kernel) (by decide +kernel)
theorem kb_217 : (Cond.instanceMethod ⟨"GroupDesk$Group", "settle", "(I)V"⟩) ∈ kb_B := kb_mem (i := 232) (by decide +kernel) (by decide +kernel)
theorem kb_218 : (Cond.selects "GroupDesk$Group" ⟨"GroupDesk$Group", "settle", "(I)V"⟩ ⟨"GroupDesk$Group", "settle", "(I)V"⟩) ∈ kb_B := kb_mem (i := 233) (by decide +kernel) (by decide +kernel)
theorem kb_219 : (Cond.code ⟨"GroupDesk$Group", "settle", "(I)V"⟩ prog_2_method_10_code 2 none) ∈ kb_B := kb_mem (i := 234) (by decide +kernel) (by decide +kernel)
theorem kb_220 : (Cond.methodLink "GroupDesk$Group" 67 ⟨"java/util/Arrays", "fill", "([II)V"⟩) ∈ kb_B := kb_mem (i := 235) (by decide +kernel) (by decide +kernel)
theorem kb_221 : (Cond.static ⟨"java/util/Arrays", "fill", "([II)V"⟩) ∈ kb_B := kb_mem (i := 236) (by decide +kernel) (by decide +kernel)
theorem kb_222 : (Cond.code ⟨"java/util/Arrays", "fill", "([II)V"⟩ prog_13_method_103_code 4 none) ∈ kb_B := kb_mem (i := 237) (by decide +kernel) (by decide +kernel)
theorem kb_223 : (Cond.methodLink "GroupDeskLaw" 63 ⟨"GroupDeskLaw", "leave", "(LGroupDesk;II[J)I"⟩) ∈ kb_B := kb_mem (i := 238) (by decide +kernel) (by decide +kernel)
theorem kb_224 : (Cond.static ⟨"GroupDeskLaw", "leave", "(LGroupDesk;II[J)I"⟩) ∈ kb_B := kb_mem (i := 239) (by decide +kernel) (by decide +kernel)
theorem kb_225 : (Cond.codeWith ⟨"GroupDeskLaw", "leave", "(LGroupDesk;II[J)I"⟩ method_4_code 5 (some .int) [(0, 10, 13, 13)]) ∈ kb_B := kb_mem (i := 240) (by decide +kernel) (by decide +kernel)
theorem kb_226 : (Cond.methodLink "GroupDeskLaw" 15 ⟨"GroupDesk", "leave", "(II)I"⟩) ∈ kb_B := kb_mem (i := 241) (by decide +kernel) (by decide +kernel)
theorem kb_227 : (Cond.instanceMethod ⟨"GroupDesk", "leave", "(II)I"⟩) ∈ kb_B := kb_mem (i := 242) (by decide +kernel) (by decide +kernel)
theorem kb_228 : (Cond.selects "GroupDesk" ⟨"GroupDesk", "leave", "(II)I"⟩ ⟨"GroupDesk", "leave", "(II)I"⟩) ∈ kb_B := kb_mem (i := 243) (by decide +kernel) (by decide +kernel)
theorem kb_229 : (Cond.code ⟨"GroupDesk", "leave", "(II)I"⟩ prog_1_method_3_code 4 (some .int)) ∈ kb_B := kb_mem (i := 244) (by decide +kernel) (by decide +kernel)
theorem kb_230 : (Cond.methodLink "GroupDesk" 61 ⟨"GroupDesk$Group", "has", "(I)Z"⟩) ∈ kb_B := kb_mem (i := 245) (by decide +kernel) (by decide +kernel)
theorem kb_231 : (Cond.instanceMethod ⟨"GroupDesk$Group", "has", "(I)Z"⟩) ∈ kb_B := kb_mem (i := 246) (by decide +kernel) (by decide +kernel)
theorem kb_232 : (Cond.selects "GroupDesk$Group" ⟨"GroupDesk$Group", "has", "(I)Z"⟩ ⟨"GroupDesk$Group", "has", "(I)Z"⟩) ∈ kb_B := kb_mem (i := 247) (by decide +kernel) (by decide +kernel)
theorem kb_233 : (Cond.code ⟨"GroupDesk$Group", "has", "(I)Z"⟩ prog_2_method_2_code 2 (some .boolean)) ∈ kb_B := kb_mem (i := 248) (by decide +kernel) (by decide +kernel)
theorem kb_234 : (Cond.methodLink "GroupDesk" 65 ⟨"GroupDesk$Group", "putOut", "(II)V"⟩) ∈ kb_B := kb_mem (i := 249) (by decide +kernel) (by decide +kernel)
theorem kb_235 : (Cond.instanceMethod ⟨"GroupDesk$Group", "putOut", "(II)V"⟩) ∈ kb_B := kb_mem (i := 250) (by decide +kernel) (by decide +kernel)
theorem kb_236 : (Cond.selects "GroupDesk$Group" ⟨"GroupDesk$Group", "putOut", "(II)V"⟩ ⟨"GroupDesk$Group", "putOut", "(II)V"⟩) ∈ kb_B := kb_mem (i := 251) (by decide +kernel) (by decide +kernel)
theorem kb_237 : (Cond.code ⟨"GroupDesk$Group", "putOut", "(II)V"⟩ prog_2_method_7_code 3 none) ∈ kb_B := kb_mem (i := 252) (by decide +kernel) (by decide +kernel)
theorem kb_238 : (Cond.methodLink "GroupDeskLaw" 66 ⟨"GroupDeskLaw", "beat", "(LGroupDesk;III[J)I"⟩) ∈ kb_B := kb_mem (i := 253) (by decide +kernel) (by decide +kernel)
theorem kb_239 : (Cond.static ⟨"GroupDeskLaw", "beat", "(LGroupDesk;III[J)I"⟩) ∈ kb_B := kb_mem (i := 254) (by decide +kernel) (by decide +kernel)
theorem kb_240 : (Cond.codeWith ⟨"GroupDeskLaw", "beat", "(LGroupDesk;III[J)I"⟩ method_5_code 6 (some .int) [(0, 12, 15, 13)]) ∈ kb_B := kb_mem (i := 255) (by decide +kernel) (by decide +kernel)
theorem kb_241 : (Cond.methodLink "GroupDeskLaw" 18 ⟨"GroupDesk", "beat", "(III)I"⟩) ∈ kb_B := kb_mem (i := 256) (by decide +kernel) (by decide +kernel)
theorem kb_242 : (Cond.instanceMethod ⟨"GroupDesk", "beat", "(III)I"⟩) ∈ kb_B := kb_mem (i := 257) (by decide +kernel) (by decide +kernel)
theorem kb_243 : (Cond.selects "GroupDesk" ⟨"GroupDesk", "beat", "(III)I"⟩ ⟨"GroupDesk", "beat", "(III)I"⟩) ∈ kb_B := kb_mem (i := 258) (by decide +kernel) (by decide +kernel)
theorem kb_244 : (Cond.code ⟨"GroupDesk", "beat", "(III)I"⟩ prog_1_method_4_code 5 (some .int)) ∈ kb_B := kb_mem (i := 259) (by decide +kernel) (by decide +kernel)
theorem kb_245 : (Cond.methodLink "GroupDesk" 72 ⟨"GroupDesk$Group", "hasJoined", "(I)Z"⟩) ∈ kb_B := kb_mem (i := 260) (by decide +kernel) (by decide +kernel)
theorem kb_246 : (Cond.instanceMethod ⟨"GroupDesk$Group", "hasJoined", "(I)Z"⟩) ∈ kb_B := kb_mem (i := 261) (by decide +kernel) (by decide +kernel)
theorem kb_247 : (Cond.selects "GroupDesk$Group" ⟨"GroupDesk$Group", "hasJoined", "(I)Z"⟩ ⟨"GroupDesk$Group", "hasJoined", "(I)Z"⟩) ∈ kb_B := kb_mem (i := 262) (by decide +kernel) (by decide +kernel)
theorem kb_248 : (Cond.code ⟨"GroupDesk$Group", "hasJoined", "(I)Z"⟩ prog_2_method_3_code 2 (some .boolean)) ∈ kb_B := kb_mem (i := 263) (by decide +kernel) (by decide +kernel)
theorem kb_249 : (Cond.methodLink "GroupDeskLaw" 72 ⟨"GroupDeskLaw", "commit", "(LGroupDesk;IIIIJ[J)I"⟩) ∈ kb_B := kb_mem (i := 264) (by decide +kernel) (by decide +kernel)
theorem kb_250 : (Cond.static ⟨"GroupDeskLaw", "commit", "(LGroupDesk;IIIIJ[J)I"⟩) ∈ kb_B := kb_mem (i := 265) (by decide +kernel) (by decide +kernel)
theorem kb_251 : (Cond.codeWith ⟨"GroupDeskLaw", "commit", "(LGroupDesk;IIIIJ[J)I"⟩ method_6_code 9 (some .int) [(0, 16, 19, 13)]) ∈ kb_B := kb_mem (i := 266) (by decide +kernel) (by decide +kernel)
theorem kb_252 : (Cond.methodLink "GroupDeskLaw" 22 ⟨"GroupDesk", "commit", "(IIIIJ)I"⟩) ∈ kb_B := kb_mem (i := 267) (by decide +kernel) (by decide +kernel)
theorem kb_253 : (Cond.instanceMethod ⟨"GroupDesk", "commit", "(IIIIJ)I"⟩) ∈ kb_B := kb_mem (i := 268) (by decide +kernel) (by decide +kernel)
theorem kb_254 : (Cond.selects "GroupDesk" ⟨"GroupDesk", "commit", "(IIIIJ)I"⟩ ⟨"GroupDesk", "commit", "(IIIIJ)I"⟩) ∈ kb_B := kb_mem (i := 269) (by decide +kernel) (by decide +kernel)
theorem kb_255 : (Cond.code ⟨"GroupDesk", "commit", "(IIIIJ)I"⟩ prog_1_method_5_code 9 (some .int)) ∈ kb_B := kb_mem (i := 270) (by decide +kernel) (by decide +kernel)
theorem kb_256 : (Cond.methodLink "GroupDesk" 75 ⟨"GroupDesk", "checkLog", "(I)V"⟩) ∈ kb_B := kb_mem (i := 271) (by decide +kernel) (by decide +kernel)
theorem kb_257 : (Cond.privateMethod ⟨"GroupDesk", "checkLog", "(I)V"⟩) ∈ lw_tbl := List.mem_of_getElem? (i := 272) (by decide +kernel)
theorem kb_258 : (Cond.instanceMethod ⟨"GroupDesk", "checkLog", "(I)V"⟩) ∈ kb_B := kb_mem (i := 273) (by decide +kernel) (by decide +kernel)
theorem kb_259 : (Cond.code ⟨"GroupDesk", "checkLog", "(I)V"⟩ prog_1_method_16_code 2 none) ∈ kb_B := kb_mem (i := 274) (by decide +kernel) (by decide +kernel)
theorem kb_260 : (Cond.stringRef "GroupDesk" 145 "there is no such log") ∈ lw_tbl := List.mem_of_getElem? (i := 275) (by decide +kernel)
theorem kb_261 : (Cond.stringRef "GroupDesk" 80 "the offset is below 0") ∈ lw_tbl := List.mem_of_getElem? (i := 276) (by decide +kernel)
theorem kb_262 : (Cond.methodLink "GroupDesk" 85 ⟨"GroupDesk$Group", "refusalOf", "(III)I"⟩) ∈ kb_B := kb_mem (i := 277) (by decide +kernel) (by decide +kernel)
theorem kb_263 : (Cond.instanceMethod ⟨"GroupDesk$Group", "refusalOf", "(III)I"⟩) ∈ kb_B := kb_mem (i := 278) (by decide +kernel) (by decide +kernel)
theorem kb_264 : (Cond.selects "GroupDesk$Group" ⟨"GroupDesk$Group", "refusalOf", "(III)I"⟩ ⟨"GroupDesk$Group", "refusalOf", "(III)I"⟩) ∈ kb_B := kb_mem (i := 279) (by decide +kernel) (by decide +kernel)
theorem kb_265 : (Cond.code ⟨"GroupDesk$Group", "refusalOf", "(III)I"⟩ prog_2_method_13_code 4 (some .int)) ∈ kb_B := kb_mem (i := 280) (by decide +kernel) (by decide +kernel)
theorem kb_266 : (Cond.methodLink "GroupDesk$Group" 47 ⟨"GroupDesk$Group", "has", "(I)Z"⟩) ∈ kb_B := kb_mem (i := 281) (by decide +kernel) (by decide +kernel)
theorem kb_267 : (Cond.methodLink "GroupDesk$Group" 82 ⟨"GroupDesk$Group", "gives", "(II)Z"⟩) ∈ kb_B := kb_mem (i := 282) (by decide +kernel) (by decide +kernel)
theorem kb_268 : (Cond.instanceMethod ⟨"GroupDesk$Group", "gives", "(II)Z"⟩) ∈ kb_B := kb_mem (i := 283) (by decide +kernel) (by decide +kernel)
theorem kb_269 : (Cond.selects "GroupDesk$Group" ⟨"GroupDesk$Group", "gives", "(II)Z"⟩ ⟨"GroupDesk$Group", "gives", "(II)Z"⟩) ∈ kb_B := kb_mem (i := 284) (by decide +kernel) (by decide +kernel)
theorem kb_270 : (Cond.code ⟨"GroupDesk$Group", "gives", "(II)Z"⟩ prog_2_method_12_code 5 (some .boolean)) ∈ kb_B := kb_mem (i := 285) (by decide +kernel) (by decide +kernel)
theorem kb_271 : (Cond.methodLink "GroupDesk$Group" 76 ⟨"java/lang/Integer", "bitCount", "(I)I"⟩) ∈ kb_B := kb_mem (i := 286) (by decide +kernel) (by decide +kernel)
theorem kb_272 : (Cond.methodLink "GroupDesk" 89 ⟨"GroupDesk$Notebook", "write", "()Z"⟩) ∈ kb_B := kb_mem (i := 287) (by decide +kernel) (by decide +kernel)
theorem kb_273 : (Cond.methodLink "GroupDeskLaw" 76 ⟨"GroupDeskLaw", "committed", "(LGroupDesk;II[J)I"⟩) ∈ kb_B := kb_mem (i := 288) (by decide +kernel) (by decide +kernel)
theorem kb_274 : (Cond.static ⟨"GroupDeskLaw", "committed", "(LGroupDesk;II[J)I"⟩) ∈ kb_B := kb_mem (i := 289) (by decide +kernel) (by decide +kernel)
theorem kb_275 : (Cond.codeWith ⟨"GroupDeskLaw", "committed", "(LGroupDesk;II[J)I"⟩ method_7_code 5 (some .int) [(0, 9, 12, 13)]) ∈ kb_B := kb_mem (i := 290) (by decide +kernel) (by decide +kernel)
theorem kb_276 : (Cond.methodLink "GroupDeskLaw" 26 ⟨"GroupDesk", "committed", "(II)J"⟩) ∈ kb_B := kb_mem (i := 291) (by decide +kernel) (by decide +kernel)
theorem kb_277 : (Cond.instanceMethod ⟨"GroupDesk", "committed", "(II)J"⟩) ∈ kb_B := kb_mem (i := 292) (by decide +kernel) (by decide +kernel)
theorem kb_278 : (Cond.selects "GroupDesk" ⟨"GroupDesk", "committed", "(II)J"⟩ ⟨"GroupDesk", "committed", "(II)J"⟩) ∈ kb_B := kb_mem (i := 293) (by decide +kernel) (by decide +kernel)
theorem kb_279 : (Cond.code ⟨"GroupDesk", "committed", "(II)J"⟩ prog_1_method_6_code 4 (some .long)) ∈ kb_B := kb_mem (i := 294) (by decide +kernel) (by decide +kernel)
theorem kb_280 : (Cond.methodLink "GroupDeskLaw" 79 ⟨"GroupDeskLaw", "group", "(LGroupDesk;II[J)I"⟩) ∈ kb_B := kb_mem (i := 295) (by decide +kernel) (by decide +kernel)
theorem kb_281 : (Cond.static ⟨"GroupDeskLaw", "group", "(LGroupDesk;II[J)I"⟩) ∈ kb_B := kb_mem (i := 296) (by decide +kernel) (by decide +kernel)
theorem kb_282 : (Cond.codeWith ⟨"GroupDeskLaw", "group", "(LGroupDesk;II[J)I"⟩ method_8_code 5 (some .int) [(0, 10, 13, 13)]) ∈ kb_B := kb_mem (i := 297) (by decide +kernel) (by decide +kernel)
theorem kb_283 : (Cond.methodLink "GroupDeskLaw" 30 ⟨"GroupDesk", "group", "(II)I"⟩) ∈ kb_B := kb_mem (i := 298) (by decide +kernel) (by decide +kernel)
theorem kb_284 : (Cond.instanceMethod ⟨"GroupDesk", "group", "(II)I"⟩) ∈ kb_B := kb_mem (i := 299) (by decide +kernel) (by decide +kernel)
theorem kb_285 : (Cond.selects "GroupDesk" ⟨"GroupDesk", "group", "(II)I"⟩ ⟨"GroupDesk", "group", "(II)I"⟩) ∈ kb_B := kb_mem (i := 300) (by decide +kernel) (by decide +kernel)
theorem kb_286 : (Cond.code ⟨"GroupDesk", "group", "(II)I"⟩ prog_1_method_7_code 4 (some .int)) ∈ kb_B := kb_mem (i := 301) (by decide +kernel) (by decide +kernel)
theorem kb_287 : (Cond.methodLink "GroupDesk" 103 ⟨"GroupDesk$Group", "ticksToLimit", "(I)I"⟩) ∈ kb_B := kb_mem (i := 302) (by decide +kernel) (by decide +kernel)
theorem kb_288 : (Cond.instanceMethod ⟨"GroupDesk$Group", "ticksToLimit", "(I)I"⟩) ∈ kb_B := kb_mem (i := 303) (by decide +kernel) (by decide +kernel)
theorem kb_289 : (Cond.selects "GroupDesk$Group" ⟨"GroupDesk$Group", "ticksToLimit", "(I)I"⟩ ⟨"GroupDesk$Group", "ticksToLimit", "(I)I"⟩) ∈ kb_B := kb_mem (i := 304) (by decide +kernel) (by decide +kernel)
theorem kb_290 : (Cond.code ⟨"GroupDesk$Group", "ticksToLimit", "(I)I"⟩ prog_2_method_11_code 2 (some .int)) ∈ kb_B := kb_mem (i := 305) (by decide +kernel) (by decide +kernel)
theorem kb_291 : (Cond.methodLink "GroupDesk$Group" 70 ⟨"java/lang/Math", "max", "(II)I"⟩) ∈ kb_B := kb_mem (i := 306) (by decide +kernel) (by decide +kernel)
theorem kb_292 : (Cond.stringRef "GroupDesk" 107 "what is not 0 .. 4") ∈ lw_tbl := List.mem_of_getElem? (i := 307) (by decide +kernel)
theorem kb_293 : (Cond.methodLink "GroupDeskLaw" 82 ⟨"GroupDeskLaw", "share", "(LGroupDesk;II[J)I"⟩) ∈ kb_B := kb_mem (i := 308) (by decide +kernel) (by decide +kernel)
theorem kb_294 : (Cond.static ⟨"GroupDeskLaw", "share", "(LGroupDesk;II[J)I"⟩) ∈ kb_B := kb_mem (i := 309) (by decide +kernel) (by decide +kernel)
theorem kb_295 : (Cond.codeWith ⟨"GroupDeskLaw", "share", "(LGroupDesk;II[J)I"⟩ method_9_code 5 (some .int) [(0, 10, 13, 13)]) ∈ kb_B := kb_mem (i := 310) (by decide +kernel) (by decide +kernel)
theorem kb_296 : (Cond.methodLink "GroupDeskLaw" 33 ⟨"GroupDesk", "share", "(II)I"⟩) ∈ kb_B := kb_mem (i := 311) (by decide +kernel) (by decide +kernel)
theorem kb_297 : (Cond.instanceMethod ⟨"GroupDesk", "share", "(II)I"⟩) ∈ kb_B := kb_mem (i := 312) (by decide +kernel) (by decide +kernel)
theorem kb_298 : (Cond.selects "GroupDesk" ⟨"GroupDesk", "share", "(II)I"⟩ ⟨"GroupDesk", "share", "(II)I"⟩) ∈ kb_B := kb_mem (i := 313) (by decide +kernel) (by decide +kernel)
theorem kb_299 : (Cond.code ⟨"GroupDesk", "share", "(II)I"⟩ prog_1_method_8_code 6 (some .int)) ∈ kb_B := kb_mem (i := 314) (by decide +kernel) (by decide +kernel)
theorem kb_300 : (Cond.methodLink "GroupDesk" 109 ⟨"GroupDesk$Group", "gives", "(II)Z"⟩) ∈ kb_B := kb_mem (i := 315) (by decide +kernel) (by decide +kernel)
theorem kb_301 : (Cond.methodLink "GroupDeskLaw" 85 ⟨"GroupDeskLaw", "room", "(LGroupDesk;I[J)I"⟩) ∈ kb_B := kb_mem (i := 316) (by decide +kernel) (by decide +kernel)
theorem kb_302 : (Cond.static ⟨"GroupDeskLaw", "room", "(LGroupDesk;I[J)I"⟩) ∈ kb_B := kb_mem (i := 317) (by decide +kernel) (by decide +kernel)
theorem kb_303 : (Cond.codeWith ⟨"GroupDeskLaw", "room", "(LGroupDesk;I[J)I"⟩ method_10_code 4 (some .int) [(0, 9, 12, 13)]) ∈ kb_B := kb_mem (i := 318) (by decide +kernel) (by decide +kernel)
theorem kb_304 : (Cond.methodLink "GroupDeskLaw" 36 ⟨"GroupDesk", "room", "(I)I"⟩) ∈ kb_B := kb_mem (i := 319) (by decide +kernel) (by decide +kernel)
theorem kb_305 : (Cond.instanceMethod ⟨"GroupDesk", "room", "(I)I"⟩) ∈ kb_B := kb_mem (i := 320) (by decide +kernel) (by decide +kernel)
theorem kb_306 : (Cond.selects "GroupDesk" ⟨"GroupDesk", "room", "(I)I"⟩ ⟨"GroupDesk", "room", "(I)I"⟩) ∈ kb_B := kb_mem (i := 321) (by decide +kernel) (by decide +kernel)
theorem kb_307 : (Cond.code ⟨"GroupDesk", "room", "(I)I"⟩ prog_1_method_9_code 3 (some .int)) ∈ kb_B := kb_mem (i := 322) (by decide +kernel) (by decide +kernel)
theorem kb_308 : (Cond.constant "GroupDesk" 113 100000) ∈ kb_B := kb_mem (i := 323) (by decide +kernel) (by decide +kernel)
theorem kb_309 : (Cond.stringRef "GroupDesk" 114 "n is not 0 .. 100000") ∈ lw_tbl := List.mem_of_getElem? (i := 324) (by decide +kernel)
theorem kb_310 : (Cond.methodLink "GroupDeskLaw" 93 ⟨"GroupDeskLaw", "ticks", "(LGroupDesk;I[J)I"⟩) ∈ kb_B := kb_mem (i := 325) (by decide +kernel) (by decide +kernel)
theorem kb_311 : (Cond.static ⟨"GroupDeskLaw", "ticks", "(LGroupDesk;I[J)I"⟩) ∈ kb_B := kb_mem (i := 326) (by decide +kernel) (by decide +kernel)
theorem kb_312 : (Cond.codeWith ⟨"GroupDeskLaw", "ticks", "(LGroupDesk;I[J)I"⟩ method_11_code 4 (some .int) [(0, 9, 12, 13)]) ∈ kb_B := kb_mem (i := 327) (by decide +kernel) (by decide +kernel)
theorem kb_313 : (Cond.methodLink "GroupDeskLaw" 40 ⟨"GroupDesk", "ticks", "(I)I"⟩) ∈ kb_B := kb_mem (i := 328) (by decide +kernel) (by decide +kernel)
theorem kb_314 : (Cond.instanceMethod ⟨"GroupDesk", "ticks", "(I)I"⟩) ∈ kb_B := kb_mem (i := 329) (by decide +kernel) (by decide +kernel)
theorem kb_315 : (Cond.selects "GroupDesk" ⟨"GroupDesk", "ticks", "(I)I"⟩ ⟨"GroupDesk", "ticks", "(I)I"⟩) ∈ kb_B := kb_mem (i := 330) (by decide +kernel) (by decide +kernel)
theorem kb_316 : (Cond.code ⟨"GroupDesk", "ticks", "(I)I"⟩ prog_1_method_11_code 3 (some .int)) ∈ kb_B := kb_mem (i := 331) (by decide +kernel) (by decide +kernel)
theorem kb_317 : (Cond.stringRef "GroupDesk" 127 "n is not 1 .. 200") ∈ lw_tbl := List.mem_of_getElem? (i := 332) (by decide +kernel)
theorem kb_318 : (Cond.constant "GroupDesk" 129 1000000) ∈ kb_B := kb_mem (i := 333) (by decide +kernel) (by decide +kernel)
theorem kb_319 : (Cond.stringRef "GroupDesk" 130 "TIME would be above 1000000") ∈ lw_tbl := List.mem_of_getElem? (i := 334) (by decide +kernel)
theorem kb_320 : (Cond.methodLink "GroupDesk" 132 ⟨"GroupDesk", "tick", "()V"⟩) ∈ kb_B := kb_mem (i := 335) (by decide +kernel) (by decide +kernel)
theorem kb_321 : (Cond.privateMethod ⟨"GroupDesk", "tick", "()V"⟩) ∈ lw_tbl := List.mem_of_getElem? (i := 336) (by decide +kernel)
theorem kb_322 : (Cond.instanceMethod ⟨"GroupDesk", "tick", "()V"⟩) ∈ kb_B := kb_mem (i := 337) (by decide +kernel) (by decide +kernel)
theorem kb_323 : (Cond.code ⟨"GroupDesk", "tick", "()V"⟩ prog_1_method_13_code 2 none) ∈ kb_B := kb_mem (i := 338) (by decide +kernel) (by decide +kernel)
theorem kb_324 : (Cond.methodLink "GroupDesk" 138 ⟨"GroupDesk$Group", "dropSilent", "(I)V"⟩) ∈ kb_B := kb_mem (i := 339) (by decide +kernel) (by decide +kernel)
theorem kb_325 : (Cond.instanceMethod ⟨"GroupDesk$Group", "dropSilent", "(I)V"⟩) ∈ kb_B := kb_mem (i := 340) (by decide +kernel) (by decide +kernel)
theorem kb_326 : (Cond.selects "GroupDesk$Group" ⟨"GroupDesk$Group", "dropSilent", "(I)V"⟩ ⟨"GroupDesk$Group", "dropSilent", "(I)V"⟩) ∈ kb_B := kb_mem (i := 341) (by decide +kernel) (by decide +kernel)
theorem kb_327 : (Cond.code ⟨"GroupDesk$Group", "dropSilent", "(I)V"⟩ prog_2_method_8_code 4 none) ∈ kb_B := kb_mem (i := 342) (by decide +kernel) (by decide +kernel)
theorem kb_328 : (Cond.methodLink "GroupDesk$Group" 51 ⟨"GroupDesk$Group", "putOut", "(II)V"⟩) ∈ kb_B := kb_mem (i := 343) (by decide +kernel) (by decide +kernel)
theorem kb_329 : (Cond.classLink "GroupDeskLaw" 52 "GroupDeskModel") ∈ kb_B := kb_mem (i := 344) (by decide +kernel) (by decide +kernel)
theorem kb_330 : (Cond.instantiable "GroupDeskModel" 12) ∈ kb_B := kb_mem (i := 345) (by decide +kernel) (by decide +kernel)
theorem kb_331 : (Cond.methodLink "GroupDeskLaw" 54 ⟨"GroupDeskModel", "<init>", "(I)V"⟩) ∈ kb_B := kb_mem (i := 346) (by decide +kernel) (by decide +kernel)
theorem kb_332 : (Cond.instanceMethod ⟨"GroupDeskModel", "<init>", "(I)V"⟩) ∈ kb_B := kb_mem (i := 347) (by decide +kernel) (by decide +kernel)
theorem kb_333 : (Cond.code ⟨"GroupDeskModel", "<init>", "(I)V"⟩ prog_5_method_1_code 4 none) ∈ kb_B := kb_mem (i := 348) (by decide +kernel) (by decide +kernel)
theorem kb_334 : (Cond.methodLink "GroupDeskModel" 1 ⟨"java/lang/Object", "<init>", "()V"⟩) ∈ kb_B := kb_mem (i := 349) (by decide +kernel) (by decide +kernel)
theorem kb_335 : (Cond.constantLong "GroupDeskModel" 40 (-1)) ∈ kb_B := kb_mem (i := 350) (by decide +kernel) (by decide +kernel)
theorem kb_336 : (Cond.fieldLink "GroupDeskModel" 42 "GroupDeskModel" "code" "I") ∈ kb_B := kb_mem (i := 351) (by decide +kernel) (by decide +kernel)
theorem kb_337 : (Cond.fieldLink "GroupDeskModel" 37 "GroupDeskModel" "logs" "I") ∈ kb_B := kb_mem (i := 352) (by decide +kernel) (by decide +kernel)
theorem kb_338 : (Cond.fieldLink "GroupDeskModel" 48 "GroupDeskModel" "time" "I") ∈ kb_B := kb_mem (i := 353) (by decide +kernel) (by decide +kernel)
theorem kb_339 : (Cond.fieldLink "GroupDeskModel" 7 "GroupDeskModel" "room" "I") ∈ kb_B := kb_mem (i := 354) (by decide +kernel) (by decide +kernel)
theorem kb_340 : (Cond.fieldLink "GroupDeskModel" 45 "GroupDeskModel" "notes" "I") ∈ kb_B := kb_mem (i := 355) (by decide +kernel) (by decide +kernel)
theorem kb_341 : (Cond.fieldLink "GroupDeskModel" 13 "GroupDeskModel" "state" "[I") ∈ kb_B := kb_mem (i := 356) (by decide +kernel) (by decide +kernel)
theorem kb_342 : (Cond.fieldLink "GroupDeskModel" 17 "GroupDeskModel" "generation" "[I") ∈ kb_B := kb_mem (i := 357) (by decide +kernel) (by decide +kernel)
theorem kb_343 : (Cond.fieldLink "GroupDeskModel" 20 "GroupDeskModel" "limit" "[I") ∈ kb_B := kb_mem (i := 358) (by decide +kernel) (by decide +kernel)
theorem kb_344 : (Cond.fieldLink "GroupDeskModel" 23 "GroupDeskModel" "member" "[Z") ∈ kb_B := kb_mem (i := 359) (by decide +kernel) (by decide +kernel)
theorem kb_345 : (Cond.fieldLink "GroupDeskModel" 27 "GroupDeskModel" "joined" "[Z") ∈ kb_B := kb_mem (i := 360) (by decide +kernel) (by decide +kernel)
theorem kb_346 : (Cond.fieldLink "GroupDeskModel" 30 "GroupDeskModel" "heard" "[I") ∈ kb_B := kb_mem (i := 361) (by decide +kernel) (by decide +kernel)
theorem kb_347 : (Cond.fieldLink "GroupDeskModel" 33 "GroupDeskModel" "offset" "[J") ∈ kb_B := kb_mem (i := 362) (by decide +kernel) (by decide +kernel)
theorem kb_348 : (Cond.lays "GroupDeskModel" "GroupDeskModel" "code" "I") ∈ kb_B := kb_mem (i := 363) (by decide +kernel) (by decide +kernel)
theorem kb_349 : (Cond.soleField "GroupDeskModel" "code") ∈ kb_B := kb_mem (i := 364) (by decide +kernel) (by decide +kernel)
theorem kb_350 : (Cond.laysFinal "GroupDeskModel" "GroupDeskModel" "logs" "I") ∈ kb_B := kb_mem (i := 365) (by decide +kernel) (by decide +kernel)
theorem kb_351 : (Cond.soleField "GroupDeskModel" "logs") ∈ kb_B := kb_mem (i := 366) (by decide +kernel) (by decide +kernel)
theorem kb_352 : (Cond.lays "GroupDeskModel" "GroupDeskModel" "time" "I") ∈ kb_B := kb_mem (i := 367) (by decide +kernel) (by decide +kernel)
theorem kb_353 : (Cond.soleField "GroupDeskModel" "time") ∈ kb_B := kb_mem (i := 368) (by decide +kernel) (by decide +kernel)
theorem kb_354 : (Cond.lays "GroupDeskModel" "GroupDeskModel" "room" "I") ∈ kb_B := kb_mem (i := 369) (by decide +kernel) (by decide +kernel)
theorem kb_355 : (Cond.soleField "GroupDeskModel" "room") ∈ kb_B := kb_mem (i := 370) (by decide +kernel) (by decide +kernel)
theorem kb_356 : (Cond.lays "GroupDeskModel" "GroupDeskModel" "notes" "I") ∈ kb_B := kb_mem (i := 371) (by decide +kernel) (by decide +kernel)
theorem kb_357 : (Cond.soleField "GroupDeskModel" "notes") ∈ kb_B := kb_mem (i := 372) (by decide +kernel) (by decide +kernel)
theorem kb_358 : (Cond.laysFinal "GroupDeskModel" "GroupDeskModel" "state" "[I") ∈ kb_B := kb_mem (i := 373) (by decide +kernel) (by decide +kernel)
theorem kb_359 : (Cond.soleField "GroupDeskModel" "state") ∈ kb_B := kb_mem (i := 374) (by decide +kernel) (by decide +kernel)
theorem kb_360 : (Cond.laysFinal "GroupDeskModel" "GroupDeskModel" "generation" "[I") ∈ kb_B := kb_mem (i := 375) (by decide +kernel) (by decide +kernel)
theorem kb_361 : (Cond.soleField "GroupDeskModel" "generation") ∈ kb_B := kb_mem (i := 376) (by decide +kernel) (by decide +kernel)
theorem kb_362 : (Cond.laysFinal "GroupDeskModel" "GroupDeskModel" "limit" "[I") ∈ kb_B := kb_mem (i := 377) (by decide +kernel) (by decide +kernel)
theorem kb_363 : (Cond.soleField "GroupDeskModel" "limit") ∈ kb_B := kb_mem (i := 378) (by decide +kernel) (by decide +kernel)
theorem kb_364 : (Cond.laysFinal "GroupDeskModel" "GroupDeskModel" "member" "[Z") ∈ kb_B := kb_mem (i := 379) (by decide +kernel) (by decide +kernel)
theorem kb_365 : (Cond.soleField "GroupDeskModel" "member") ∈ kb_B := kb_mem (i := 380) (by decide +kernel) (by decide +kernel)
theorem kb_366 : (Cond.laysFinal "GroupDeskModel" "GroupDeskModel" "joined" "[Z") ∈ kb_B := kb_mem (i := 381) (by decide +kernel) (by decide +kernel)
theorem kb_367 : (Cond.soleField "GroupDeskModel" "joined") ∈ kb_B := kb_mem (i := 382) (by decide +kernel) (by decide +kernel)
theorem kb_368 : (Cond.laysFinal "GroupDeskModel" "GroupDeskModel" "heard" "[I") ∈ kb_B := kb_mem (i := 383) (by decide +kernel) (by decide +kernel)
theorem kb_369 : (Cond.soleField "GroupDeskModel" "heard") ∈ kb_B := kb_mem (i := 384) (by decide +kernel) (by decide +kernel)
theorem kb_370 : (Cond.laysFinal "GroupDeskModel" "GroupDeskModel" "offset" "[J") ∈ kb_B := kb_mem (i := 385) (by decide +kernel) (by decide +kernel)
theorem kb_371 : (Cond.soleField "GroupDeskModel" "offset") ∈ kb_B := kb_mem (i := 386) (by decide +kernel) (by decide +kernel)
theorem kb_372 : (Cond.superclass "GroupDeskModel" "java/lang/Object") ∈ kb_B := kb_mem (i := 387) (by decide +kernel) (by decide +kernel)
theorem kb_373 : (Cond.arrayClass .boolean) ∈ kb_B := kb_mem (i := 388) (by decide +kernel) (by decide +kernel)
theorem kb_374 : (Cond.methodLink "GroupDeskLaw" 59 ⟨"GroupDeskModel", "thrown", "()I"⟩) ∈ kb_B := kb_mem (i := 389) (by decide +kernel) (by decide +kernel)
theorem kb_375 : (Cond.instanceMethod ⟨"GroupDeskModel", "thrown", "()I"⟩) ∈ kb_B := kb_mem (i := 390) (by decide +kernel) (by decide +kernel)
theorem kb_376 : (Cond.selects "GroupDeskModel" ⟨"GroupDeskModel", "thrown", "()I"⟩ ⟨"GroupDeskModel", "thrown", "()I"⟩) ∈ kb_B := kb_mem (i := 391) (by decide +kernel) (by decide +kernel)
theorem kb_377 : (Cond.code ⟨"GroupDeskModel", "thrown", "()I"⟩ prog_5_method_2_code 1 (some .int)) ∈ kb_B := kb_mem (i := 392) (by decide +kernel) (by decide +kernel)
theorem kb_378 : (Cond.methodLink "GroupDeskLaw" 58 ⟨"GroupDeskModel", "join", "(II)I"⟩) ∈ kb_B := kb_mem (i := 393) (by decide +kernel) (by decide +kernel)
theorem kb_379 : (Cond.instanceMethod ⟨"GroupDeskModel", "join", "(II)I"⟩) ∈ kb_B := kb_mem (i := 394) (by decide +kernel) (by decide +kernel)
theorem kb_380 : (Cond.selects "GroupDeskModel" ⟨"GroupDeskModel", "join", "(II)I"⟩ ⟨"GroupDeskModel", "join", "(II)I"⟩) ∈ kb_B := kb_mem (i := 395) (by decide +kernel) (by decide +kernel)
theorem kb_381 : (Cond.code ⟨"GroupDeskModel", "join", "(II)I"⟩ prog_5_method_12_code 3 (some .int)) ∈ kb_B := kb_mem (i := 396) (by decide +kernel) (by decide +kernel)
theorem kb_382 : (Cond.methodLink "GroupDeskModel" 69 ⟨"GroupDeskModel", "isOne", "(I)Z"⟩) ∈ kb_B := kb_mem (i := 397) (by decide +kernel) (by decide +kernel)
theorem kb_383 : (Cond.static ⟨"GroupDeskModel", "isOne", "(I)Z"⟩) ∈ kb_B := kb_mem (i := 398) (by decide +kernel) (by decide +kernel)
theorem kb_384 : (Cond.code ⟨"GroupDeskModel", "isOne", "(I)Z"⟩ prog_5_method_4_code 1 (some .boolean)) ∈ kb_B := kb_mem (i := 399) (by decide +kernel) (by decide +kernel)
theorem kb_385 : (Cond.methodLink "GroupDeskModel" 73 ⟨"GroupDeskModel", "goes", "(Z)Z"⟩) ∈ kb_B := kb_mem (i := 400) (by decide +kernel) (by decide +kernel)
theorem kb_386 : (Cond.privateMethod ⟨"GroupDeskModel", "goes", "(Z)Z"⟩) ∈ lw_tbl := List.mem_of_getElem? (i := 401) (by decide +kernel)
theorem kb_387 : (Cond.instanceMethod ⟨"GroupDeskModel", "goes", "(Z)Z"⟩) ∈ kb_B := kb_mem (i := 402) (by decide +kernel) (by decide +kernel)
theorem kb_388 : (Cond.code ⟨"GroupDeskModel", "goes", "(Z)Z"⟩ prog_5_method_3_code 2 (some .boolean)) ∈ kb_B := kb_mem (i := 403) (by decide +kernel) (by decide +kernel)
theorem kb_389 : (Cond.methodLink "GroupDeskModel" 66 ⟨"GroupDeskModel", "mixes", "(I)V"⟩) ∈ kb_B := kb_mem (i := 404) (by decide +kernel) (by decide +kernel)
theorem kb_390 : (Cond.privateMethod ⟨"GroupDeskModel", "mixes", "(I)V"⟩) ∈ lw_tbl := List.mem_of_getElem? (i := 405) (by decide +kernel)
theorem kb_391 : (Cond.instanceMethod ⟨"GroupDeskModel", "mixes", "(I)V"⟩) ∈ kb_B := kb_mem (i := 406) (by decide +kernel) (by decide +kernel)
theorem kb_392 : (Cond.code ⟨"GroupDeskModel", "mixes", "(I)V"⟩ prog_5_method_8_code 3 none) ∈ kb_B := kb_mem (i := 407) (by decide +kernel) (by decide +kernel)
theorem kb_393 : (Cond.methodLink "GroupDeskModel" 77 ⟨"GroupDeskModel", "mayBeDone", "(I)V"⟩) ∈ kb_B := kb_mem (i := 408) (by decide +kernel) (by decide +kernel)
theorem kb_394 : (Cond.privateMethod ⟨"GroupDeskModel", "mayBeDone", "(I)V"⟩) ∈ lw_tbl := List.mem_of_getElem? (i := 409) (by decide +kernel)
theorem kb_395 : (Cond.instanceMethod ⟨"GroupDeskModel", "mayBeDone", "(I)V"⟩) ∈ kb_B := kb_mem (i := 410) (by decide +kernel) (by decide +kernel)
theorem kb_396 : (Cond.code ⟨"GroupDeskModel", "mayBeDone", "(I)V"⟩ prog_5_method_9_code 5 none) ∈ kb_B := kb_mem (i := 411) (by decide +kernel) (by decide +kernel)
theorem kb_397 : (Cond.methodLink "GroupDeskModel" 51 ⟨"GroupDeskModel", "count", "(I)I"⟩) ∈ kb_B := kb_mem (i := 412) (by decide +kernel) (by decide +kernel)
theorem kb_398 : (Cond.privateMethod ⟨"GroupDeskModel", "count", "(I)I"⟩) ∈ lw_tbl := List.mem_of_getElem? (i := 413) (by decide +kernel)
theorem kb_399 : (Cond.instanceMethod ⟨"GroupDeskModel", "count", "(I)I"⟩) ∈ kb_B := kb_mem (i := 414) (by decide +kernel) (by decide +kernel)
theorem kb_400 : (Cond.code ⟨"GroupDeskModel", "count", "(I)I"⟩ prog_5_method_5_code 4 (some .int)) ∈ kb_B := kb_mem (i := 415) (by decide +kernel) (by decide +kernel)
theorem kb_401 : (Cond.methodLink "GroupDeskModel" 55 ⟨"GroupDeskModel", "joinedOf", "(I)I"⟩) ∈ kb_B := kb_mem (i := 416) (by decide +kernel) (by decide +kernel)
theorem kb_402 : (Cond.privateMethod ⟨"GroupDeskModel", "joinedOf", "(I)I"⟩) ∈ lw_tbl := List.mem_of_getElem? (i := 417) (by decide +kernel)
theorem kb_403 : (Cond.instanceMethod ⟨"GroupDeskModel", "joinedOf", "(I)I"⟩) ∈ kb_B := kb_mem (i := 418) (by decide +kernel) (by decide +kernel)
theorem kb_404 : (Cond.code ⟨"GroupDeskModel", "joinedOf", "(I)I"⟩ prog_5_method_6_code 4 (some .int)) ∈ kb_B := kb_mem (i := 419) (by decide +kernel) (by decide +kernel)
theorem kb_405 : (Cond.methodLink "GroupDeskModel" 58 ⟨"GroupDeskModel", "empties", "(I)V"⟩) ∈ kb_B := kb_mem (i := 420) (by decide +kernel) (by decide +kernel)
theorem kb_406 : (Cond.privateMethod ⟨"GroupDeskModel", "empties", "(I)V"⟩) ∈ lw_tbl := List.mem_of_getElem? (i := 421) (by decide +kernel)
theorem kb_407 : (Cond.instanceMethod ⟨"GroupDeskModel", "empties", "(I)V"⟩) ∈ kb_B := kb_mem (i := 422) (by decide +kernel) (by decide +kernel)
theorem kb_408 : (Cond.code ⟨"GroupDeskModel", "empties", "(I)V"⟩ prog_5_method_10_code 3 none) ∈ kb_B := kb_mem (i := 423) (by decide +kernel) (by decide +kernel)
theorem kb_409 : (Cond.methodLink "GroupDeskModel" 62 ⟨"GroupDeskModel", "takesNote", "()Z"⟩) ∈ kb_B := kb_mem (i := 424) (by decide +kernel) (by decide +kernel)
theorem kb_410 : (Cond.privateMethod ⟨"GroupDeskModel", "takesNote", "()Z"⟩) ∈ lw_tbl := List.mem_of_getElem? (i := 425) (by decide +kernel)
theorem kb_411 : (Cond.instanceMethod ⟨"GroupDeskModel", "takesNote", "()Z"⟩) ∈ kb_B := kb_mem (i := 426) (by decide +kernel) (by decide +kernel)
theorem kb_412 : (Cond.code ⟨"GroupDeskModel", "takesNote", "()Z"⟩ prog_5_method_7_code 1 (some .boolean)) ∈ kb_B := kb_mem (i := 427) (by decide +kernel) (by decide +kernel)
theorem kb_413 : (Cond.methodLink "GroupDeskLaw" 65 ⟨"GroupDeskModel", "leave", "(II)I"⟩) ∈ kb_B := kb_mem (i := 428) (by decide +kernel) (by decide +kernel)
theorem kb_414 : (Cond.instanceMethod ⟨"GroupDeskModel", "leave", "(II)I"⟩) ∈ kb_B := kb_mem (i := 429) (by decide +kernel) (by decide +kernel)
theorem kb_415 : (Cond.selects "GroupDeskModel" ⟨"GroupDeskModel", "leave", "(II)I"⟩ ⟨"GroupDeskModel", "leave", "(II)I"⟩) ∈ kb_B := kb_mem (i := 430) (by decide +kernel) (by decide +kernel)
theorem kb_416 : (Cond.code ⟨"GroupDeskModel", "leave", "(II)I"⟩ prog_5_method_13_code 3 (some .int)) ∈ kb_B := kb_mem (i := 431) (by decide +kernel) (by decide +kernel)
theorem kb_417 : (Cond.methodLink "GroupDeskModel" 80 ⟨"GroupDeskModel", "without", "(I)V"⟩) ∈ kb_B := kb_mem (i := 432) (by decide +kernel) (by decide +kernel)
theorem kb_418 : (Cond.privateMethod ⟨"GroupDeskModel", "without", "(I)V"⟩) ∈ lw_tbl := List.mem_of_getElem? (i := 433) (by decide +kernel)
theorem kb_419 : (Cond.instanceMethod ⟨"GroupDeskModel", "without", "(I)V"⟩) ∈ kb_B := kb_mem (i := 434) (by decide +kernel) (by decide +kernel)
theorem kb_420 : (Cond.code ⟨"GroupDeskModel", "without", "(I)V"⟩ prog_5_method_11_code 2 none) ∈ kb_B := kb_mem (i := 435) (by decide +kernel) (by decide +kernel)
theorem kb_421 : (Cond.methodLink "GroupDeskLaw" 69 ⟨"GroupDeskModel", "beat", "(III)I"⟩) ∈ kb_B := kb_mem (i := 436) (by decide +kernel) (by decide +kernel)
theorem kb_422 : (Cond.instanceMethod ⟨"GroupDeskModel", "beat", "(III)I"⟩) ∈ kb_B := kb_mem (i := 437) (by decide +kernel) (by decide +kernel)
theorem kb_423 : (Cond.selects "GroupDeskModel" ⟨"GroupDeskModel", "beat", "(III)I"⟩ ⟨"GroupDeskModel", "beat", "(III)I"⟩) ∈ kb_B := kb_mem (i := 438) (by decide +kernel) (by decide +kernel)
theorem kb_424 : (Cond.code ⟨"GroupDeskModel", "beat", "(III)I"⟩ prog_5_method_14_code 4 (some .int)) ∈ kb_B := kb_mem (i := 439) (by decide +kernel) (by decide +kernel)
theorem kb_425 : (Cond.methodLink "GroupDeskLaw" 75 ⟨"GroupDeskModel", "commit", "(IIIIJ)I"⟩) ∈ kb_B := kb_mem (i := 440) (by decide +kernel) (by decide +kernel)
theorem kb_426 : (Cond.instanceMethod ⟨"GroupDeskModel", "commit", "(IIIIJ)I"⟩) ∈ kb_B := kb_mem (i := 441) (by decide +kernel) (by decide +kernel)
theorem kb_427 : (Cond.selects "GroupDeskModel" ⟨"GroupDeskModel", "commit", "(IIIIJ)I"⟩ ⟨"GroupDeskModel", "commit", "(IIIIJ)I"⟩) ∈ kb_B := kb_mem (i := 442) (by decide +kernel) (by decide +kernel)
theorem kb_428 : (Cond.code ⟨"GroupDeskModel", "commit", "(IIIIJ)I"⟩ prog_5_method_16_code 7 (some .int)) ∈ kb_B := kb_mem (i := 443) (by decide +kernel) (by decide +kernel)
theorem kb_429 : (Cond.methodLink "GroupDeskModel" 83 ⟨"GroupDeskModel", "owner", "(II)I"⟩) ∈ kb_B := kb_mem (i := 444) (by decide +kernel) (by decide +kernel)
theorem kb_430 : (Cond.privateMethod ⟨"GroupDeskModel", "owner", "(II)I"⟩) ∈ lw_tbl := List.mem_of_getElem? (i := 445) (by decide +kernel)
theorem kb_431 : (Cond.instanceMethod ⟨"GroupDeskModel", "owner", "(II)I"⟩) ∈ kb_B := kb_mem (i := 446) (by decide +kernel) (by decide +kernel)
theorem kb_432 : (Cond.code ⟨"GroupDeskModel", "owner", "(II)I"⟩ prog_5_method_15_code 5 (some .int)) ∈ kb_B := kb_mem (i := 447) (by decide +kernel) (by decide +kernel)
theorem kb_433 : (Cond.methodLink "GroupDeskLaw" 78 ⟨"GroupDeskModel", "committed", "(II)J"⟩) ∈ kb_B := kb_mem (i := 448) (by decide +kernel) (by decide +kernel)
theorem kb_434 : (Cond.instanceMethod ⟨"GroupDeskModel", "committed", "(II)J"⟩) ∈ kb_B := kb_mem (i := 449) (by decide +kernel) (by decide +kernel)
theorem kb_435 : (Cond.selects "GroupDeskModel" ⟨"GroupDeskModel", "committed", "(II)J"⟩ ⟨"GroupDeskModel", "committed", "(II)J"⟩) ∈ kb_B := kb_mem (i := 450) (by decide +kernel) (by decide +kernel)
theorem kb_436 : (Cond.code ⟨"GroupDeskModel", "committed", "(II)J"⟩ prog_5_method_17_code 3 (some .long)) ∈ kb_B := kb_mem (i := 451) (by decide +kernel) (by decide +kernel)
theorem kb_437 : (Cond.methodLink "GroupDeskLaw" 81 ⟨"GroupDeskModel", "group", "(II)I"⟩) ∈ kb_B := kb_mem (i := 452) (by decide +kernel) (by decide +kernel)
theorem kb_438 : (Cond.instanceMethod ⟨"GroupDeskModel", "group", "(II)I"⟩) ∈ kb_B := kb_mem (i := 453) (by decide +kernel) (by decide +kernel)
theorem kb_439 : (Cond.selects "GroupDeskModel" ⟨"GroupDeskModel", "group", "(II)I"⟩ ⟨"GroupDeskModel", "group", "(II)I"⟩) ∈ kb_B := kb_mem (i := 454) (by decide +kernel) (by decide +kernel)
theorem kb_440 : (Cond.code ⟨"GroupDeskModel", "group", "(II)I"⟩ prog_5_method_18_code 6 (some .int)) ∈ kb_B := kb_mem (i := 455) (by decide +kernel) (by decide +kernel)
theorem kb_441 : (Cond.methodLink "GroupDeskLaw" 84 ⟨"GroupDeskModel", "share", "(II)I"⟩) ∈ kb_B := kb_mem (i := 456) (by decide +kernel) (by decide +kernel)
theorem kb_442 : (Cond.instanceMethod ⟨"GroupDeskModel", "share", "(II)I"⟩) ∈ kb_B := kb_mem (i := 457) (by decide +kernel) (by decide +kernel)
theorem kb_443 : (Cond.selects "GroupDeskModel" ⟨"GroupDeskModel", "share", "(II)I"⟩ ⟨"GroupDeskModel", "share", "(II)I"⟩) ∈ kb_B := kb_mem (i := 458) (by decide +kernel) (by decide +kernel)
theorem kb_444 : (Cond.code ⟨"GroupDeskModel", "share", "(II)I"⟩ prog_5_method_19_code 5 (some .int)) ∈ kb_B := kb_mem (i := 459) (by decide +kernel) (by decide +kernel)
theorem kb_445 : (Cond.methodLink "GroupDeskLaw" 88 ⟨"GroupDeskModel", "room", "(I)I"⟩) ∈ kb_B := kb_mem (i := 460) (by decide +kernel) (by decide +kernel)
theorem kb_446 : (Cond.instanceMethod ⟨"GroupDeskModel", "room", "(I)I"⟩) ∈ kb_B := kb_mem (i := 461) (by decide +kernel) (by decide +kernel)
theorem kb_447 : (Cond.selects "GroupDeskModel" ⟨"GroupDeskModel", "room", "(I)I"⟩ ⟨"GroupDeskModel", "room", "(I)I"⟩) ∈ kb_B := kb_mem (i := 462) (by decide +kernel) (by decide +kernel)
theorem kb_448 : (Cond.code ⟨"GroupDeskModel", "room", "(I)I"⟩ prog_5_method_20_code 3 (some .int)) ∈ kb_B := kb_mem (i := 463) (by decide +kernel) (by decide +kernel)
theorem kb_449 : (Cond.constant "GroupDeskModel" 87 100000) ∈ kb_B := kb_mem (i := 464) (by decide +kernel) (by decide +kernel)
theorem kb_450 : (Cond.methodLink "GroupDeskLaw" 92 ⟨"GroupDeskModel", "restart", "()I"⟩) ∈ kb_B := kb_mem (i := 465) (by decide +kernel) (by decide +kernel)
theorem kb_451 : (Cond.instanceMethod ⟨"GroupDeskModel", "restart", "()I"⟩) ∈ kb_B := kb_mem (i := 466) (by decide +kernel) (by decide +kernel)
theorem kb_452 : (Cond.selects "GroupDeskModel" ⟨"GroupDeskModel", "restart", "()I"⟩ ⟨"GroupDeskModel", "restart", "()I"⟩) ∈ kb_B := kb_mem (i := 467) (by decide +kernel) (by decide +kernel)
theorem kb_453 : (Cond.code ⟨"GroupDeskModel", "restart", "()I"⟩ prog_5_method_21_code 3 (some .int)) ∈ kb_B := kb_mem (i := 468) (by decide +kernel) (by decide +kernel)
theorem kb_454 : (Cond.methodLink "GroupDeskLaw" 95 ⟨"GroupDeskModel", "ticks", "(I)I"⟩) ∈ kb_B := kb_mem (i := 469) (by decide +kernel) (by decide +kernel)
theorem kb_455 : (Cond.instanceMethod ⟨"GroupDeskModel", "ticks", "(I)I"⟩) ∈ kb_B := kb_mem (i := 470) (by decide +kernel) (by decide +kernel)
theorem kb_456 : (Cond.selects "GroupDeskModel" ⟨"GroupDeskModel", "ticks", "(I)I"⟩ ⟨"GroupDeskModel", "ticks", "(I)I"⟩) ∈ kb_B := kb_mem (i := 471) (by decide +kernel) (by decide +kernel)
theorem kb_457 : (Cond.code ⟨"GroupDeskModel", "ticks", "(I)I"⟩ prog_5_method_23_code 4 (some .int)) ∈ kb_B := kb_mem (i := 472) (by decide +kernel) (by decide +kernel)
theorem kb_458 : (Cond.constant "GroupDeskModel" 88 1000000) ∈ kb_B := kb_mem (i := 473) (by decide +kernel) (by decide +kernel)
theorem kb_459 : (Cond.methodLink "GroupDeskModel" 89 ⟨"GroupDeskModel", "tick", "(I)V"⟩) ∈ kb_B := kb_mem (i := 474) (by decide +kernel) (by decide +kernel)
theorem kb_460 : (Cond.privateMethod ⟨"GroupDeskModel", "tick", "(I)V"⟩) ∈ lw_tbl := List.mem_of_getElem? (i := 475) (by decide +kernel)
theorem kb_461 : (Cond.instanceMethod ⟨"GroupDeskModel", "tick", "(I)V"⟩) ∈ kb_B := kb_mem (i := 476) (by decide +kernel) (by decide +kernel)
theorem kb_462 : (Cond.code ⟨"GroupDeskModel", "tick", "(I)V"⟩ prog_5_method_22_code 4 none) ∈ kb_B := kb_mem (i := 477) (by decide +kernel) (by decide +kernel)
theorem kb_463 : (Cond.methodLink "GroupDeskLaw" 99 ⟨"GroupDeskModel", "notes", "()I"⟩) ∈ kb_B := kb_mem (i := 478) (by decide +kernel) (by decide +kernel)
theorem kb_464 : (Cond.instanceMethod ⟨"GroupDeskModel", "notes", "()I"⟩) ∈ kb_B := kb_mem (i := 479) (by decide +kernel) (by decide +kernel)
theorem kb_465 : (Cond.selects "GroupDeskModel" ⟨"GroupDeskModel", "notes", "()I"⟩ ⟨"GroupDeskModel", "notes", "()I"⟩) ∈ kb_B := kb_mem (i := 480) (by decide +kernel) (by decide +kernel)
theorem kb_466 : (Cond.code ⟨"GroupDeskModel", "notes", "()I"⟩ prog_5_method_24_code 1 (some .int)) ∈ kb_B := kb_mem (i := 481) (by decide +kernel) (by decide +kernel)
theorem kb_467 : (Cond.constantLong "GroupDeskLaw" 70 4294967295) ∈ kb_B := kb_mem (i := 482) (by decide +kernel) (by decide +kernel)
theorem kb_468 : (Cond.sameMethod "java/lang/Throwable" "java/lang/Throwable" "fillInStackTrace" "(I)Ljava/lang/Throwable;") ∈ kb_B := kb_mem (i := 483) (by decide +kernel) (by decide +kernel)
end
section
/-! classes, their fields, methods: names -/
abbrev R_D : String := "GroupDesk"
abbrev R_N : String := "GroupDesk$Notebook"
abbrev R_G : String := "GroupDesk$Group"
abbrev R_M : String := "GroupDeskModel"
abbrev R_L : String := "GroupDeskLaw"
abbrev R_JI : String := "java/lang/Integer"
abbrev R_JA : String := "java/util/Arrays"
def F_D : u_T := fun k => match k with
  | 0 => ("GroupDesk", "logs", "I", true)
  | 1 => ("GroupDesk", "groups", "[LGroupDesk$Group;", true)
  | 2 => ("GroupDesk", "notebook", "LGroupDesk$Notebook;", true)
  | _ => ("GroupDesk", "time", "I", false)
def t_D : Nat → FieldType := fun k => match k with
  | 0 => .int
  | 1 => .array (.object "GroupDesk$Group")
  | 2 => .object "GroupDesk$Notebook"
  | _ => .int
theorem n_D : ∀ a, a < 4 → ∀ b, b < 4 → a ≠ b → (F_D a).2.1 ≠ (F_D b).2.1 := by decide +kernel
theorem t_D_ok : ∀ k, k < 4 → parseFieldDescriptor (F_D k).2.2.1 = some (t_D k) := by decide +kernel
theorem i_D : ∀ w ∈ u_ws R_D F_D 4, w ∈ kb_B := by
  intro w hw
  have h : w ∈ ([.laysFinal "GroupDesk" "GroupDesk" "logs" "I", .laysFinal "GroupDesk" "GroupDesk" "groups" "[LGroupDesk$Group;", .laysFinal "GroupDesk" "GroupDesk" "notebook" "LGroupDesk$Notebook;", .lays "GroupDesk" "GroupDesk" "time" "I"] : List Cond) := hw
  simp only [List.mem_cons, List.not_mem_nil, or_false] at h
  rcases h with rfl | rfl | rfl | rfl
  · exact kb_86
  · exact kb_88
  · exact kb_90
  · exact kb_92
def F_N : u_T := fun k => match k with
  | 0 => ("GroupDesk$Notebook", "left", "I", false)
  | _ => ("GroupDesk$Notebook", "written", "I", false)
def t_N : Nat → FieldType := fun k => match k with
  | 0 => .int
  | _ => .int
theorem n_N : ∀ a, a < 2 → ∀ b, b < 2 → a ≠ b → (F_N a).2.1 ≠ (F_N b).2.1 := by decide +kernel
theorem t_N_ok : ∀ k, k < 2 → parseFieldDescriptor (F_N k).2.2.1 = some (t_N k) := by decide +kernel
theorem i_N : ∀ w ∈ u_ws R_N F_N 2, w ∈ kb_B := by
  intro w hw
  have h : w ∈ ([.lays "GroupDesk$Notebook" "GroupDesk$Notebook" "left" "I", .lays "GroupDesk$Notebook" "GroupDesk$Notebook" "written" "I"] : List Cond) := hw
  simp only [List.mem_cons, List.not_mem_nil, or_false] at h
  rcases h with rfl | rfl
  · exact kb_36
  · exact kb_38
def F_G : u_T := fun k => match k with
  | 0 => ("GroupDesk$Group", "generation", "I", false)
  | 1 => ("GroupDesk$Group", "state", "I", false)
  | 2 => ("GroupDesk$Group", "members", "I", false)
  | 3 => ("GroupDesk$Group", "joined", "I", false)
  | 4 => ("GroupDesk$Group", "limit", "I", false)
  | 5 => ("GroupDesk$Group", "heard", "[I", true)
  | _ => ("GroupDesk$Group", "offsets", "[J", true)
def t_G : Nat → FieldType := fun k => match k with
  | 0 => .int
  | 1 => .int
  | 2 => .int
  | 3 => .int
  | 4 => .int
  | 5 => .array .int
  | _ => .array .long
theorem n_G : ∀ a, a < 7 → ∀ b, b < 7 → a ≠ b → (F_G a).2.1 ≠ (F_G b).2.1 := by decide +kernel
theorem t_G_ok : ∀ k, k < 7 → parseFieldDescriptor (F_G k).2.2.1 = some (t_G k) := by decide +kernel
theorem i_G : ∀ w ∈ u_ws R_G F_G 7, w ∈ kb_B := by
  intro w hw
  have h : w ∈ ([.lays "GroupDesk$Group" "GroupDesk$Group" "generation" "I", .lays "GroupDesk$Group" "GroupDesk$Group" "state" "I", .lays "GroupDesk$Group" "GroupDesk$Group" "members" "I", .lays "GroupDesk$Group" "GroupDesk$Group" "joined" "I", .lays "GroupDesk$Group" "GroupDesk$Group" "limit" "I", .laysFinal "GroupDesk$Group" "GroupDesk$Group" "heard" "[I", .laysFinal "GroupDesk$Group" "GroupDesk$Group" "offsets" "[J"] : List Cond) := hw
  simp only [List.mem_cons, List.not_mem_nil, or_false] at h
  rcases h with rfl | rfl | rfl | rfl | rfl | rfl | rfl
  · exact kb_65
  · exact kb_67
  · exact kb_69
  · exact kb_71
  · exact kb_73
  · exact kb_75
  · exact kb_77
def F_M : u_T := fun k => match k with
  | 0 => ("GroupDeskModel", "code", "I", false)
  | 1 => ("GroupDeskModel", "logs", "I", true)
  | 2 => ("GroupDeskModel", "time", "I", false)
  | 3 => ("GroupDeskModel", "room", "I", false)
  | 4 => ("GroupDeskModel", "notes", "I", false)
  | 5 => ("GroupDeskModel", "state", "[I", true)
  | 6 => ("GroupDeskModel", "generation", "[I", true)
  | 7 => ("GroupDeskModel", "limit", "[I", true)
  | 8 => ("GroupDeskModel", "member", "[Z", true)
  | 9 => ("GroupDeskModel", "joined", "[Z", true)
  | 10 => ("GroupDeskModel", "heard", "[I", true)
  | _ => ("GroupDeskModel", "offset", "[J", true)
def t_M : Nat → FieldType := fun k => match k with
  | 0 => .int
  | 1 => .int
  | 2 => .int
  | 3 => .int
  | 4 => .int
  | 5 => .array .int
  | 6 => .array .int
  | 7 => .array .int
  | 8 => .array .boolean
  | 9 => .array .boolean
  | 10 => .array .int
  | _ => .array .long
theorem n_M : ∀ a, a < 12 → ∀ b, b < 12 → a ≠ b → (F_M a).2.1 ≠ (F_M b).2.1 := by decide +kernel
theorem t_M_ok : ∀ k, k < 12 → parseFieldDescriptor (F_M k).2.2.1 = some (t_M k) := by decide +kernel
theorem i_M : ∀ w ∈ u_ws R_M F_M 12, w ∈ kb_B := by
  intro w hw
  have h : w ∈ ([.lays "GroupDeskModel" "GroupDeskModel" "code" "I", .laysFinal "GroupDeskModel" "GroupDeskModel" "logs" "I", .lays "GroupDeskModel" "GroupDeskModel" "time" "I", .lays "GroupDeskModel" "GroupDeskModel" "room" "I", .lays "GroupDeskModel" "GroupDeskModel" "notes" "I", .laysFinal "GroupDeskModel" "GroupDeskModel" "state" "[I", .laysFinal "GroupDeskModel" "GroupDeskModel" "generation" "[I", .laysFinal "GroupDeskModel" "GroupDeskModel" "limit" "[I", .laysFinal "GroupDeskModel" "GroupDeskModel" "member" "[Z", .laysFinal "GroupDeskModel" "GroupDeskModel" "joined" "[Z", .laysFinal "GroupDeskModel" "GroupDeskModel" "heard" "[I", .laysFinal "GroupDeskModel" "GroupDeskModel" "offset" "[J"] : List Cond) := hw
  simp only [List.mem_cons, List.not_mem_nil, or_false] at h
  rcases h with rfl | rfl | rfl | rfl | rfl | rfl | rfl | rfl | rfl | rfl | rfl | rfl
  · exact kb_348
  · exact kb_350
  · exact kb_352
  · exact kb_354
  · exact kb_356
  · exact kb_358
  · exact kb_360
  · exact kb_362
  · exact kb_364
  · exact kb_366
  · exact kb_368
  · exact kb_370
abbrev vwCl : List vw_C := [(R_D, F_D, 4), (R_N, F_N, 2), (R_G, F_G, 7), (R_M, F_M, 12)]
abbrev b_D_init : ByteArray := prog_1_method_1_code
abbrev y_D_init : MethodName := ⟨"GroupDesk", "<init>", "(I)V"⟩
abbrev w_D_init : List Cond := .code y_D_init b_D_init 3 none :: kb_B
abbrev b_N_init : ByteArray := prog_3_method_1_code
abbrev y_N_init : MethodName := ⟨"GroupDesk$Notebook", "<init>", "()V"⟩
abbrev w_N_init : List Cond := .code y_N_init b_N_init 1 none :: kb_B
abbrev b_G_init : ByteArray := prog_2_method_1_code
abbrev y_G_init : MethodName := ⟨"GroupDesk$Group", "<init>", "()V"⟩
abbrev w_G_init : List Cond := .code y_G_init b_G_init 1 none :: kb_B
abbrev b_JA_fillL : ByteArray := prog_13_method_101_code
abbrev y_JA_fillL : MethodName := ⟨"java/util/Arrays", "fill", "([JJ)V"⟩
abbrev w_JA_fillL : List Cond := .code y_JA_fillL b_JA_fillL 5 none :: kb_B
abbrev b_D_restart : ByteArray := prog_1_method_10_code
abbrev y_D_restart : MethodName := ⟨"GroupDesk", "restart", "()I"⟩
abbrev w_D_restart : List Cond := .code y_D_restart b_D_restart 3 (some .int) :: kb_B
abbrev b_JI_bitCount : ByteArray := prog_8_method_49_code
abbrev y_JI_bitCount : MethodName := ⟨"java/lang/Integer", "bitCount", "(I)I"⟩
abbrev w_JI_bitCount : List Cond := .code y_JI_bitCount b_JI_bitCount 1 (some .int) :: kb_B
abbrev b_G_clear : ByteArray := prog_2_method_4_code
abbrev y_G_clear : MethodName := ⟨"GroupDesk$Group", "clear", "()V"⟩
abbrev w_G_clear : List Cond := .code y_G_clear b_G_clear 1 none :: kb_B
abbrev b_D_notes : ByteArray := prog_1_method_12_code
abbrev y_D_notes : MethodName := ⟨"GroupDesk", "notes", "()I"⟩
abbrev w_D_notes : List Cond := .code y_D_notes b_D_notes 1 (some .int) :: kb_B
abbrev b_L_cell : ByteArray := method_2_code
abbrev y_L_cell : MethodName := ⟨"GroupDeskLaw", "cell", "([II)I"⟩
abbrev w_L_cell : List Cond := .code y_L_cell b_L_cell 2 (some .int) :: kb_B
abbrev b_L_join : ByteArray := method_3_code
abbrev y_L_join : MethodName := ⟨"GroupDeskLaw", "join", "(LGroupDesk;II[J)I"⟩
abbrev w_L_join : List Cond := .codeWith y_L_join b_L_join 5 (some .int) [(0, 10, 13, 13)] :: kb_B
abbrev b_D_join : ByteArray := prog_1_method_2_code
abbrev y_D_join : MethodName := ⟨"GroupDesk", "join", "(II)I"⟩
abbrev w_D_join : List Cond := .code y_D_join b_D_join 4 (some .int) :: kb_B
abbrev b_D_groupAt : ByteArray := prog_1_method_14_code
abbrev y_D_groupAt : MethodName := ⟨"GroupDesk", "groupAt", "(I)LGroupDesk$Group;"⟩
abbrev w_D_groupAt : List Cond := .code y_D_groupAt b_D_groupAt 2 (some (.object "GroupDesk$Group")) :: kb_B
abbrev b_D_checkMember : ByteArray := prog_1_method_15_code
abbrev y_D_checkMember : MethodName := ⟨"GroupDesk", "checkMember", "(I)V"⟩
abbrev w_D_checkMember : List Cond := .code y_D_checkMember b_D_checkMember 2 none :: kb_B
abbrev b_G_takeIn : ByteArray := prog_2_method_6_code
abbrev y_G_takeIn : MethodName := ⟨"GroupDesk$Group", "takeIn", "(II)V"⟩
abbrev w_G_takeIn : List Cond := .code y_G_takeIn b_G_takeIn 3 none :: kb_B
abbrev b_G_mix : ByteArray := prog_2_method_5_code
abbrev y_G_mix : MethodName := ⟨"GroupDesk$Group", "mix", "(I)V"⟩
abbrev w_G_mix : List Cond := .code y_G_mix b_G_mix 2 none :: kb_B
abbrev b_G_finishMixing : ByteArray := prog_2_method_9_code
abbrev y_G_finishMixing : MethodName := ⟨"GroupDesk$Group", "finishMixing", "(ILGroupDesk$Notebook;)V"⟩
abbrev w_G_finishMixing : List Cond := .code y_G_finishMixing b_G_finishMixing 3 none :: kb_B
abbrev b_N_write : ByteArray := prog_3_method_2_code
abbrev y_N_write : MethodName := ⟨"GroupDesk$Notebook", "write", "()Z"⟩
abbrev w_N_write : List Cond := .code y_N_write b_N_write 1 (some .boolean) :: kb_B
abbrev b_G_settle : ByteArray := prog_2_method_10_code
abbrev y_G_settle : MethodName := ⟨"GroupDesk$Group", "settle", "(I)V"⟩
abbrev w_G_settle : List Cond := .code y_G_settle b_G_settle 2 none :: kb_B
abbrev b_JA_fillI : ByteArray := prog_13_method_103_code
abbrev y_JA_fillI : MethodName := ⟨"java/util/Arrays", "fill", "([II)V"⟩
abbrev w_JA_fillI : List Cond := .code y_JA_fillI b_JA_fillI 4 none :: kb_B
abbrev b_L_leave : ByteArray := method_4_code
abbrev y_L_leave : MethodName := ⟨"GroupDeskLaw", "leave", "(LGroupDesk;II[J)I"⟩
abbrev w_L_leave : List Cond := .codeWith y_L_leave b_L_leave 5 (some .int) [(0, 10, 13, 13)] :: kb_B
abbrev b_D_leave : ByteArray := prog_1_method_3_code
abbrev y_D_leave : MethodName := ⟨"GroupDesk", "leave", "(II)I"⟩
abbrev w_D_leave : List Cond := .code y_D_leave b_D_leave 4 (some .int) :: kb_B
abbrev b_G_has : ByteArray := prog_2_method_2_code
abbrev y_G_has : MethodName := ⟨"GroupDesk$Group", "has", "(I)Z"⟩
abbrev w_G_has : List Cond := .code y_G_has b_G_has 2 (some .boolean) :: kb_B
abbrev b_G_putOut : ByteArray := prog_2_method_7_code
abbrev y_G_putOut : MethodName := ⟨"GroupDesk$Group", "putOut", "(II)V"⟩
abbrev w_G_putOut : List Cond := .code y_G_putOut b_G_putOut 3 none :: kb_B
abbrev b_L_beat : ByteArray := method_5_code
abbrev y_L_beat : MethodName := ⟨"GroupDeskLaw", "beat", "(LGroupDesk;III[J)I"⟩
abbrev w_L_beat : List Cond := .codeWith y_L_beat b_L_beat 6 (some .int) [(0, 12, 15, 13)] :: kb_B
abbrev b_D_beat : ByteArray := prog_1_method_4_code
abbrev y_D_beat : MethodName := ⟨"GroupDesk", "beat", "(III)I"⟩
abbrev w_D_beat : List Cond := .code y_D_beat b_D_beat 5 (some .int) :: kb_B
abbrev b_G_hasJoined : ByteArray := prog_2_method_3_code
abbrev y_G_hasJoined : MethodName := ⟨"GroupDesk$Group", "hasJoined", "(I)Z"⟩
abbrev w_G_hasJoined : List Cond := .code y_G_hasJoined b_G_hasJoined 2 (some .boolean) :: kb_B
abbrev b_L_commit : ByteArray := method_6_code
abbrev y_L_commit : MethodName := ⟨"GroupDeskLaw", "commit", "(LGroupDesk;IIIIJ[J)I"⟩
abbrev w_L_commit : List Cond := .codeWith y_L_commit b_L_commit 9 (some .int) [(0, 16, 19, 13)] :: kb_B
abbrev b_D_commit : ByteArray := prog_1_method_5_code
abbrev y_D_commit : MethodName := ⟨"GroupDesk", "commit", "(IIIIJ)I"⟩
abbrev w_D_commit : List Cond := .code y_D_commit b_D_commit 9 (some .int) :: kb_B
abbrev b_D_checkLog : ByteArray := prog_1_method_16_code
abbrev y_D_checkLog : MethodName := ⟨"GroupDesk", "checkLog", "(I)V"⟩
abbrev w_D_checkLog : List Cond := .code y_D_checkLog b_D_checkLog 2 none :: kb_B
abbrev b_G_refusalOf : ByteArray := prog_2_method_13_code
abbrev y_G_refusalOf : MethodName := ⟨"GroupDesk$Group", "refusalOf", "(III)I"⟩
abbrev w_G_refusalOf : List Cond := .code y_G_refusalOf b_G_refusalOf 4 (some .int) :: kb_B
abbrev b_G_gives : ByteArray := prog_2_method_12_code
abbrev y_G_gives : MethodName := ⟨"GroupDesk$Group", "gives", "(II)Z"⟩
abbrev w_G_gives : List Cond := .code y_G_gives b_G_gives 5 (some .boolean) :: kb_B
abbrev b_L_committed : ByteArray := method_7_code
abbrev y_L_committed : MethodName := ⟨"GroupDeskLaw", "committed", "(LGroupDesk;II[J)I"⟩
abbrev w_L_committed : List Cond := .codeWith y_L_committed b_L_committed 5 (some .int) [(0, 9, 12, 13)] :: kb_B
abbrev b_D_committed : ByteArray := prog_1_method_6_code
abbrev y_D_committed : MethodName := ⟨"GroupDesk", "committed", "(II)J"⟩
abbrev w_D_committed : List Cond := .code y_D_committed b_D_committed 4 (some .long) :: kb_B
abbrev b_L_group : ByteArray := method_8_code
abbrev y_L_group : MethodName := ⟨"GroupDeskLaw", "group", "(LGroupDesk;II[J)I"⟩
abbrev w_L_group : List Cond := .codeWith y_L_group b_L_group 5 (some .int) [(0, 10, 13, 13)] :: kb_B
abbrev b_D_group : ByteArray := prog_1_method_7_code
abbrev y_D_group : MethodName := ⟨"GroupDesk", "group", "(II)I"⟩
abbrev w_D_group : List Cond := .code y_D_group b_D_group 4 (some .int) :: kb_B
abbrev b_G_ticksToLimit : ByteArray := prog_2_method_11_code
abbrev y_G_ticksToLimit : MethodName := ⟨"GroupDesk$Group", "ticksToLimit", "(I)I"⟩
abbrev w_G_ticksToLimit : List Cond := .code y_G_ticksToLimit b_G_ticksToLimit 2 (some .int) :: kb_B
abbrev b_L_share : ByteArray := method_9_code
abbrev y_L_share : MethodName := ⟨"GroupDeskLaw", "share", "(LGroupDesk;II[J)I"⟩
abbrev w_L_share : List Cond := .codeWith y_L_share b_L_share 5 (some .int) [(0, 10, 13, 13)] :: kb_B
abbrev b_D_share : ByteArray := prog_1_method_8_code
abbrev y_D_share : MethodName := ⟨"GroupDesk", "share", "(II)I"⟩
abbrev w_D_share : List Cond := .code y_D_share b_D_share 6 (some .int) :: kb_B
abbrev b_L_room : ByteArray := method_10_code
abbrev y_L_room : MethodName := ⟨"GroupDeskLaw", "room", "(LGroupDesk;I[J)I"⟩
abbrev w_L_room : List Cond := .codeWith y_L_room b_L_room 4 (some .int) [(0, 9, 12, 13)] :: kb_B
abbrev b_D_room : ByteArray := prog_1_method_9_code
abbrev y_D_room : MethodName := ⟨"GroupDesk", "room", "(I)I"⟩
abbrev w_D_room : List Cond := .code y_D_room b_D_room 3 (some .int) :: kb_B
abbrev b_L_ticks : ByteArray := method_11_code
abbrev y_L_ticks : MethodName := ⟨"GroupDeskLaw", "ticks", "(LGroupDesk;I[J)I"⟩
abbrev w_L_ticks : List Cond := .codeWith y_L_ticks b_L_ticks 4 (some .int) [(0, 9, 12, 13)] :: kb_B
abbrev b_D_ticks : ByteArray := prog_1_method_11_code
abbrev y_D_ticks : MethodName := ⟨"GroupDesk", "ticks", "(I)I"⟩
abbrev w_D_ticks : List Cond := .code y_D_ticks b_D_ticks 3 (some .int) :: kb_B
abbrev b_D_tick : ByteArray := prog_1_method_13_code
abbrev y_D_tick : MethodName := ⟨"GroupDesk", "tick", "()V"⟩
abbrev w_D_tick : List Cond := .code y_D_tick b_D_tick 2 none :: kb_B
abbrev b_G_dropSilent : ByteArray := prog_2_method_8_code
abbrev y_G_dropSilent : MethodName := ⟨"GroupDesk$Group", "dropSilent", "(I)V"⟩
abbrev w_G_dropSilent : List Cond := .code y_G_dropSilent b_G_dropSilent 4 none :: kb_B
abbrev b_M_init : ByteArray := prog_5_method_1_code
abbrev y_M_init : MethodName := ⟨"GroupDeskModel", "<init>", "(I)V"⟩
abbrev w_M_init : List Cond := .code y_M_init b_M_init 4 none :: kb_B
abbrev b_M_thrown : ByteArray := prog_5_method_2_code
abbrev y_M_thrown : MethodName := ⟨"GroupDeskModel", "thrown", "()I"⟩
abbrev w_M_thrown : List Cond := .code y_M_thrown b_M_thrown 1 (some .int) :: kb_B
abbrev b_M_join : ByteArray := prog_5_method_12_code
abbrev y_M_join : MethodName := ⟨"GroupDeskModel", "join", "(II)I"⟩
abbrev w_M_join : List Cond := .code y_M_join b_M_join 3 (some .int) :: kb_B
abbrev b_M_isOne : ByteArray := prog_5_method_4_code
abbrev y_M_isOne : MethodName := ⟨"GroupDeskModel", "isOne", "(I)Z"⟩
abbrev w_M_isOne : List Cond := .code y_M_isOne b_M_isOne 1 (some .boolean) :: kb_B
abbrev b_M_goes : ByteArray := prog_5_method_3_code
abbrev y_M_goes : MethodName := ⟨"GroupDeskModel", "goes", "(Z)Z"⟩
abbrev w_M_goes : List Cond := .code y_M_goes b_M_goes 2 (some .boolean) :: kb_B
abbrev b_M_mixes : ByteArray := prog_5_method_8_code
abbrev y_M_mixes : MethodName := ⟨"GroupDeskModel", "mixes", "(I)V"⟩
abbrev w_M_mixes : List Cond := .code y_M_mixes b_M_mixes 3 none :: kb_B
abbrev b_M_mayBeDone : ByteArray := prog_5_method_9_code
abbrev y_M_mayBeDone : MethodName := ⟨"GroupDeskModel", "mayBeDone", "(I)V"⟩
abbrev w_M_mayBeDone : List Cond := .code y_M_mayBeDone b_M_mayBeDone 5 none :: kb_B
abbrev b_M_count : ByteArray := prog_5_method_5_code
abbrev y_M_count : MethodName := ⟨"GroupDeskModel", "count", "(I)I"⟩
abbrev w_M_count : List Cond := .code y_M_count b_M_count 4 (some .int) :: kb_B
abbrev b_M_joinedOf : ByteArray := prog_5_method_6_code
abbrev y_M_joinedOf : MethodName := ⟨"GroupDeskModel", "joinedOf", "(I)I"⟩
abbrev w_M_joinedOf : List Cond := .code y_M_joinedOf b_M_joinedOf 4 (some .int) :: kb_B
abbrev b_M_empties : ByteArray := prog_5_method_10_code
abbrev y_M_empties : MethodName := ⟨"GroupDeskModel", "empties", "(I)V"⟩
abbrev w_M_empties : List Cond := .code y_M_empties b_M_empties 3 none :: kb_B
abbrev b_M_takesNote : ByteArray := prog_5_method_7_code
abbrev y_M_takesNote : MethodName := ⟨"GroupDeskModel", "takesNote", "()Z"⟩
abbrev w_M_takesNote : List Cond := .code y_M_takesNote b_M_takesNote 1 (some .boolean) :: kb_B
abbrev b_M_leave : ByteArray := prog_5_method_13_code
abbrev y_M_leave : MethodName := ⟨"GroupDeskModel", "leave", "(II)I"⟩
abbrev w_M_leave : List Cond := .code y_M_leave b_M_leave 3 (some .int) :: kb_B
abbrev b_M_without : ByteArray := prog_5_method_11_code
abbrev y_M_without : MethodName := ⟨"GroupDeskModel", "without", "(I)V"⟩
abbrev w_M_without : List Cond := .code y_M_without b_M_without 2 none :: kb_B
abbrev b_M_beat : ByteArray := prog_5_method_14_code
abbrev y_M_beat : MethodName := ⟨"GroupDeskModel", "beat", "(III)I"⟩
abbrev w_M_beat : List Cond := .code y_M_beat b_M_beat 4 (some .int) :: kb_B
abbrev b_M_commit : ByteArray := prog_5_method_16_code
abbrev y_M_commit : MethodName := ⟨"GroupDeskModel", "commit", "(IIIIJ)I"⟩
abbrev w_M_commit : List Cond := .code y_M_commit b_M_commit 7 (some .int) :: kb_B
abbrev b_M_owner : ByteArray := prog_5_method_15_code
abbrev y_M_owner : MethodName := ⟨"GroupDeskModel", "owner", "(II)I"⟩
abbrev w_M_owner : List Cond := .code y_M_owner b_M_owner 5 (some .int) :: kb_B
abbrev b_M_committed : ByteArray := prog_5_method_17_code
abbrev y_M_committed : MethodName := ⟨"GroupDeskModel", "committed", "(II)J"⟩
abbrev w_M_committed : List Cond := .code y_M_committed b_M_committed 3 (some .long) :: kb_B
abbrev b_M_group : ByteArray := prog_5_method_18_code
abbrev y_M_group : MethodName := ⟨"GroupDeskModel", "group", "(II)I"⟩
abbrev w_M_group : List Cond := .code y_M_group b_M_group 6 (some .int) :: kb_B
abbrev b_M_share : ByteArray := prog_5_method_19_code
abbrev y_M_share : MethodName := ⟨"GroupDeskModel", "share", "(II)I"⟩
abbrev w_M_share : List Cond := .code y_M_share b_M_share 5 (some .int) :: kb_B
abbrev b_M_room : ByteArray := prog_5_method_20_code
abbrev y_M_room : MethodName := ⟨"GroupDeskModel", "room", "(I)I"⟩
abbrev w_M_room : List Cond := .code y_M_room b_M_room 3 (some .int) :: kb_B
abbrev b_M_restart : ByteArray := prog_5_method_21_code
abbrev y_M_restart : MethodName := ⟨"GroupDeskModel", "restart", "()I"⟩
abbrev w_M_restart : List Cond := .code y_M_restart b_M_restart 3 (some .int) :: kb_B
abbrev b_M_ticks : ByteArray := prog_5_method_23_code
abbrev y_M_ticks : MethodName := ⟨"GroupDeskModel", "ticks", "(I)I"⟩
abbrev w_M_ticks : List Cond := .code y_M_ticks b_M_ticks 4 (some .int) :: kb_B
abbrev b_M_tick : ByteArray := prog_5_method_22_code
abbrev y_M_tick : MethodName := ⟨"GroupDeskModel", "tick", "(I)V"⟩
abbrev w_M_tick : List Cond := .code y_M_tick b_M_tick 4 none :: kb_B
abbrev b_M_notes : ByteArray := prog_5_method_24_code
abbrev y_M_notes : MethodName := ⟨"GroupDeskModel", "notes", "()I"⟩
abbrev w_M_notes : List Cond := .code y_M_notes b_M_notes 1 (some .int) :: kb_B
abbrev b_L_law : ByteArray := code
abbrev y_L_law : MethodName := ⟨"GroupDeskLaw", "law", "([I)Z"⟩
end
section
/-! worlds as lists of cells: apart by their addresses; the start and the end of a method over such a world; calls -/
theorem kl_D {A : Nat → Prop} {ws : va_W} (h : (ws.map Prod.fst).Nodup) (hA : ∀ q ∈ ws.map Prod.fst, A q) : va_D A ws := by
  refine ⟨fun i j x y hi hj e => ?_, fun k q hk => hA _ (List.mem_map.mpr ⟨q, List.mem_of_getElem? hk, rfl⟩)⟩
  have h1 : (ws.map Prod.fst)[i]? = some x.1 := by rw [List.getElem?_map, hi]; rfl
  have h2 : (ws.map Prod.fst)[j]? = some y.1 := by rw [List.getElem?_map, hj]; rfl
  have hl : i < (ws.map Prod.fst).length := (List.getElem?_eq_some_iff.mp h1).1
  exact (List.getElem?_inj hl h).mp (by rw [h1, h2, e])
theorem kl_get {α : Type} {N n : Nat} {f : Nat → α} (hn : n < N) : ((List.range N).map f)[n]? = some (f n) := by simp [hn]
theorem kl_set {α : Type} {N n : Nat} {f f' : Nat → α} {x : α} (hn : n < N) (h1 : f' n = x) (h2 : ∀ q, q < N → q ≠ n → f' q = f q) : ((List.range N).map f).set n x = (List.range N).map f' := by
  apply List.ext_getElem?
  intro i
  by_cases hi : i = n
  · subst hi
    rw [List.getElem?_set_self (by simpa using hn), kl_get hn, h1]
  · rw [List.getElem?_set_ne (Ne.symm hi)]
    by_cases hN : i < N
    · rw [kl_get hN, kl_get hN, h2 i hN hi]
    · simp [hN]
/-- where a method may write: the cells L, and those that it makes -/
def kA (L : List Nat) (sz : Nat) : Nat → Prop := fun q => q ∈ L ∨ sz ≤ q
/-- a method's start: its arguments, its world, the tables -/
def kPre (D : va_G) (cl : List vw_C) (tys : List (ClassId × FieldType)) (As : List Value) (sz : Nat) (ws : va_W) : Array Value → State → Prop := fun v U => v = As.toArray ∧ U.heap.size = sz ∧ va_P D cl ws U.heap ∧ va_K D cl tys U
theorem kPre_blind {D : va_G} {cl : List vw_C} {tys : List (ClassId × FieldType)} {As : List Value} {sz : Nat} {ws : va_W} : FrameBlind (kPre D cl tys As sz ws) := fun a U g mk q => ⟨q.1, q.2.1, q.2.2.1, va_K.moved (u := U) (U := U.calling g mk a) (Vm.Alike.refl U.vm) q.2.2.2⟩
section KBA
variable {p : Program} {l : Launch} {e : Env} {R : Room} {s : State} {m : MethodId} {args : Array Value} {below : List Frame} {meth : Method} {c : Code} {H : Heap} {locs : List Loc} {cells slots : Nat} {Q : State → Prop}
variable {D : va_G} {cl : List vw_C} {tys : List (ClassId × FieldType)} {ws : va_W} {A : Nat → Prop} {L : List Nat} {pc mc ms : Nat} {ls : Array Slot} {st0 rest As : List Value} {a : Array Value} {b : Nat} {C : String}
theorem kPV (hr : ∃ cell : Cell, H[b]? = some cell ∧ cell.vm.isStatics = false ∧ s.vm.findClass C = some cell.cls) (hP : va_P D cl ws H) (hK : va_K D cl tys s) : PreV s H C b (kPre D cl tys (.ref b :: As) H.size ws) As :=
  ⟨kPre_blind, hr, fun U hU hW => ⟨rfl, by rw [hU], by rw [hU]; exact hP, va_K.moved hW.alike hK⟩⟩
theorem kPS (hP : va_P D cl ws H) (hK : va_K D cl tys s) : PreS s H (kPre D cl tys As H.size ws) As :=
  ⟨kPre_blind, fun U hU hW => ⟨rfl, by rw [hU], by rw [hU]; exact hP, va_K.moved hW.alike hK⟩⟩
theorem kA_sub (hS : va_S A s.heap H locs) (hA : ∀ q, s.heap.size ≤ q → A q) (hL : ∀ q ∈ L, A q) : ∀ q, kA L H.size q → A q := by
  intro q h
  rcases h with h | h
  · exact hL q h
  · exact hA q (Nat.le_trans hS.1 h)
theorem kA_out {H1 : Heap} (hk : ∀ q : Nat, q < H.size → ¬ kA L H.size q → H1[q]? = H[q]?) : ∀ q : Nat, q < H.size → q ∉ L → H1[q]? = H[q]? := by
  intro q h1 h2
  refine hk q h1 (fun h => ?_)
  rcases h with h | h
  · exact h2 h
  · omega
theorem kc_i {σ : Type} {post : Int32 → σ → Prop} {Wd : σ → va_W} (hr : va_Run p l e R s m args below meth c H locs cells slots mc ms (F0 m pc ls st0) rest (va_Qi post (fun u t => va_P D cl (Wd u) t.heap) (kA L H.size) a) (kA L H.size)) (hS : va_S A s.heap H locs) (hA : ∀ q, s.heap.size ≤ q → A q) (hL : ∀ q ∈ L, A q)
    (kk : ∀ (r : Int32) (u : σ) (H1 : Heap) (locs1 : List Loc), post r u → va_P D cl (Wd u) H1 → H.size ≤ H1.size → (∀ q : Nat, q < H.size → q ∉ L → H1[q]? = H[q]?) → va_S A s.heap H1 locs1 → W p l e R s m args below meth c H1 locs1 (cells + mc) (slots + ms) Q (F0 m (pc + 3) ls (.int r :: rest))) : W p l e R s m args below meth c H locs cells slots Q (F0 m pc ls st0) := by
  have hA1 := kA_sub hS hA hL
  refine va_calli hr hS (fun q _ h => hA1 q h) hA1 (fun r u t H1 locs1 ht hvm hw hB hz hk hS1 => ?_)
  exact kk r u H1 locs1 hw (by rw [← ht]; exact hB) hz (kA_out hk) hS1
theorem kc_l {σ : Type} {post : Int64 → σ → Prop} {Wd : σ → va_W} (hr : va_Run p l e R s m args below meth c H locs cells slots mc ms (F0 m pc ls st0) rest (va_Ql post (fun u t => va_P D cl (Wd u) t.heap) (kA L H.size) a) (kA L H.size)) (hS : va_S A s.heap H locs) (hA : ∀ q, s.heap.size ≤ q → A q) (hL : ∀ q ∈ L, A q)
    (kk : ∀ (r : Int64) (u : σ) (H1 : Heap) (locs1 : List Loc), post r u → va_P D cl (Wd u) H1 → H.size ≤ H1.size → (∀ q : Nat, q < H.size → q ∉ L → H1[q]? = H[q]?) → va_S A s.heap H1 locs1 → W p l e R s m args below meth c H1 locs1 (cells + mc) (slots + ms) Q (F0 m (pc + 3) ls (.long r :: rest))) : W p l e R s m args below meth c H locs cells slots Q (F0 m pc ls st0) := by
  have hA1 := kA_sub hS hA hL
  refine va_calll hr hS (fun q _ h => hA1 q h) hA1 (fun r u t H1 locs1 ht hvm hw hB hz hk hS1 => ?_)
  exact kk r u H1 locs1 hw (by rw [← ht]; exact hB) hz (kA_out hk) hS1
theorem kc_v {σ : Type} {post : σ → Prop} {Wd : σ → va_W} (hr : va_Run p l e R s m args below meth c H locs cells slots mc ms (F0 m pc ls st0) rest (va_Qv post (fun u t => va_P D cl (Wd u) t.heap) (kA L H.size) a) (kA L H.size)) (hS : va_S A s.heap H locs) (hA : ∀ q, s.heap.size ≤ q → A q) (hL : ∀ q ∈ L, A q)
    (kk : ∀ (u : σ) (H1 : Heap) (locs1 : List Loc), post u → va_P D cl (Wd u) H1 → H.size ≤ H1.size → (∀ q : Nat, q < H.size → q ∉ L → H1[q]? = H[q]?) → va_S A s.heap H1 locs1 → W p l e R s m args below meth c H1 locs1 (cells + mc) (slots + ms) Q (F0 m (pc + 3) ls rest)) : W p l e R s m args below meth c H locs cells slots Q (F0 m pc ls st0) := by
  have hA1 := kA_sub hS hA hL
  refine va_callv hr hS (fun q _ h => hA1 q h) hA1 (fun u t H1 locs1 ht hvm hw hB hz hk hS1 => ?_)
  exact kk u H1 locs1 hw (by rw [← ht]; exact hB) hz (kA_out hk) hS1
/-- one cell of a world was changed by a callee that had it alone -/
theorem kl_one {H1 : Heap} {k x : Nat} {e0 e1 : va_E} (hP : va_P D cl ws H) (hn : (ws.map Prod.fst).Nodup) (hk : ws[k]? = some (x, e0)) (hP1 : va_P D cl [(x, e1)] H1) (ho : ∀ q : Nat, q < H.size → q ∉ [x] → H1[q]? = H[q]?) : va_P D cl (ws.set k (x, e1)) H1 := by
  have hD : va_D (fun _ => True) ws := kl_D hn (fun _ _ => trivial)
  have hl := (List.getElem?_eq_some_iff.mp hk).1
  intro i q hi
  by_cases hik : i = k
  · subst hik
    rw [List.getElem?_set_self hl] at hi
    cases hi
    exact hP1 0 _ rfl
  · rw [List.getElem?_set_ne (Ne.symm hik)] at hi
    refine (hP i q hi).kept (ho q.1 (hP i q hi).lt (fun h => ?_))
    exact hik (hD.1 i k q (x, e0) hi hk (List.mem_singleton.mp h))
end KBA
end
section
/-! small rows: arrays that agree below their length; the machine's names for a loop -/
theorem ka_i {cA : ClassId} {n : Nat} {f f' : Nat → Int32} (h : ∀ q, q < n → f q = f' q) : vp_cell cA (n, .inl f) = vp_cell cA (n, .inl f') := by
  rw [vp_cell_i, vp_cell_i]
  unfold arrV
  congr 1
  apply Array.ext
  · simp
  · intro i h1 h2
    simp at h1
    simp [h i h1]
theorem ka_l {cA : ClassId} {n : Nat} {f f' : Nat → Int64} (h : ∀ q, q < n → f q = f' q) : vp_cell cA (n, .inr (.inl f)) = vp_cell cA (n, .inr (.inl f')) := by
  show arrV cA n (fun j => .long (f j)) = arrV cA n (fun j => .long (f' j))
  unfold arrV
  congr 1
  apply Array.ext
  · simp
  · intro i h1 h2
    simp at h1
    simp [h i h1]
theorem ka_Pi {D : va_G} {cl : List vw_C} {x : Nat} {cA : ClassId} {n : Nat} {f f' : Nat → Int32} {H : Heap} (hP : va_P D cl [(x, .inl (cA, n, .inl f))] H) (h : ∀ q, q < n → f q = f' q) : va_P D cl [(x, .inl (cA, n, .inl f'))] H := by
  intro k q hk
  match k, hk with
  | 0, hk =>
    cases hk
    show H[x]? = some (vp_cell cA (n, .inl f'))
    rw [← ka_i h]
    exact hP 0 _ rfl
  | k + 1, hk => simp at hk
theorem ka_Pl {D : va_G} {cl : List vw_C} {x : Nat} {cA : ClassId} {n : Nat} {f f' : Nat → Int64} {H : Heap} (hP : va_P D cl [(x, .inl (cA, n, .inr (.inl f)))] H) (h : ∀ q, q < n → f q = f' q) : va_P D cl [(x, .inl (cA, n, .inr (.inl f')))] H := by
  intro k q hk
  match k, hk with
  | 0, hk =>
    cases hk
    show H[x]? = some (vp_cell cA (n, .inr (.inl f')))
    rw [← ka_l h]
    exact hP 0 _ rfl
  | k + 1, hk => simp at hk
/-- what a world holds stays where a callee changed other cells -/
theorem kl_keep {D : va_G} {cl : List vw_C} {ws : va_W} {H H1 : Heap} {L : List Nat} (hP : va_P D cl ws H) (hd : ∀ q ∈ ws.map Prod.fst, q ∉ L) (ho : ∀ q : Nat, q < H.size → q ∉ L → H1[q]? = H[q]?) : va_P D cl ws H1 :=
  hP.kept (fun k q hk => ho q.1 (hP k q hk).lt (hd q.1 (List.mem_map.mpr ⟨q, List.mem_of_getElem? hk, rfl⟩)))
theorem kn_lt8 {x : Int32} (h0 : ¬ x < 0) (h8 : x < 8) : vp_in x 8 := by
  rw [vp_in_iff]
  rw [Int32.lt_iff_toInt_lt] at h0 h8
  simp at h0 h8
  omega
theorem kn_no0 {x : Int32} {n : Nat} (h : x < 0) : ¬ vp_in x n := fun q => q (Or.inl h)
theorem kn_ge {x y : Int32} {n : Nat} (hy : y.toInt = n) (h : ¬ x < y) : ¬ vp_in x n := by
  rw [vp_in_iff]
  rw [Int32.lt_iff_toInt_lt, hy] at h
  omega
theorem kn_lt {x y : Int32} {n : Nat} (hy : y.toInt = n) (h0 : ¬ x < 0) (h : x < y) : vp_in x n := by
  rw [vp_in_iff]
  rw [Int32.lt_iff_toInt_lt] at h0 h
  rw [hy] at h
  simp at h0
  omega
end
section
/-! methods that may throw: their contracts, a throw, a call that may throw, a catch -/
section KTA
variable {p : Program} {l : Launch} {e : Env} {R : Room} {s : State} {m : MethodId} {args : Array Value} {below : List Frame} {meth : Method} {c : Code} {H : Heap} {locs : List Loc} {cells slots : Nat} {Q : State → Prop}
/-- what has moved when a method is over, by an answer or by a throw -/
def kt_E (s t : State) (L : List Loc) (k n : Nat) : Prop := s.WarmedH t.vm ∧ s.sameButNew ({ t with vm := s.vm } : State) L k n
def kt_Q (below : List Frame) (Qc : Array Value → State → Outcome → State → Prop) (a : Array Value) (s : State) (mc ms : Nat) (free : Addr → Prop) : State → Prop := fun t =>
  ∃ o, t.status = .running ∧ Ended t below o ∧ Qc a s o t ∧ ∃ L, kt_E s t L mc ms ∧ ∀ q ∈ L, free q.base
/-- a contract of a method that answers or throws -/
def MetT (l : Launch) (y : MethodName) (ws : List Cond) (rm : Room) (Pc : Array Value → State → Prop) (Qc : Array Value → State → Outcome → State → Prop) (mc ms : Nat) (free : Addr → Prop) : Prop :=
  MetFree l y (headSpec ws rm) Pc (fun _ _ _ _ _ => True) (fun a st o t => Qc a st o t ∧ ∃ L, kt_E st t L mc ms ∧ ∀ q ∈ L, free q.base)
theorem kt_of {Qc : Array Value → State → Outcome → State → Prop} {free : Addr → Prop} {mc ms : Nat} {t : State} (h : MQ below Qc args s mc ms free t) : kt_Q below Qc args s mc ms free t := by
  obtain ⟨o, h1, h2, h3, L, ⟨-, h4, h5⟩, h6⟩ := h
  exact ⟨o, h1, h2, h3, L, ⟨h4, h5⟩, h6⟩
theorem kt_W {Q' : State → Prop} {g : JFrame} (h : ∀ t, Q t → Q' t) (k : W p l e R s m args below meth c H locs cells slots Q g) : W p l e R s m args below meth c H locs cells slots Q' g := by
  intro T hT X
  obtain ⟨t, a, b⟩ := k T hT X
  exact ⟨t, a, h t b⟩
theorem kt_ofW {y : MethodName} {ws ws' : List Cond} {rm : Room} {Pc : Array Value → State → Prop} {Qc : Array Value → State → Outcome → State → Prop} {mc ms : Nat} {free : Addr → Prop} {cc : ByteArray} {maxL : Nat} {ret : Option FieldType}
    (hy : plainName y.cls = true) (hw : ws = Cond.code y cc maxL ret :: ws')
    (body : ∀ p e s m args below meth c s₁, BodyLoose p l y (headSpec ws rm) cc maxL ret e s m args below meth c s₁ → c.maxLocals = maxL → Pc args s →
      W p l e (headSpec ws rm).room s m args below meth c s.heap [] 0 0 (kt_Q below Qc args s mc ms free) (entryFrame m args maxL)) : MetT l y ws rm Pc Qc mc ms free := by
  refine MetFree.of_bodyS (code := cc) (maxLocals := maxL) (ret := ret) hy ?_ ?_
  · intro args s m h hn
    obtain ⟨meth, c, h1, h2, h3, h4, h5, h6, -, -⟩ := Cond.code_spec hn (atoms_spec (ws := ws) h _ (by rw [hw]; exact List.mem_cons_self))
    exact ⟨meth, c, h1, h2, h3, h4, h5, h6⟩
  · intro p e s m args below meth c s₁ B hml hP _
    have hh0 : s₁.heap = s.heap := by rw [B.state]; rfl
    obtain ⟨t, a1, o, b1, b2, b3⟩ := body p e s m args below meth c s₁ B hml hP s₁ hh0 (Stand.of_body B)
    exact ⟨t, o, a1, b1, b2, b3⟩
/-- the call itself, of a method that answers or throws -/
theorem kt_back {ws : List Cond} {rm : Room} {Pc : Array Value → State → Prop} {Qc : Array Value → State → Outcome → State → Prop} {mc ms : Nat} {free : Addr → Prop} {bytes : ByteArray} {maxL : Nat} {ret : Option FieldType} {y : MethodName} {T : State}
    (X : Stand p l e R s m args below meth c T locs cells slots) (hM : MetT l y ws rm Pc Qc mc ms free)
    (hrc : rm.cells = mc) (hrs : rm.slots = ms) (hframes : rm.frames + 1 ≤ R.frames) (hlocals : 8 + (maxL + 11) + rm.locals ≤ R.locals)
    (hws : ∀ w ∈ ws, ∀ (a' : Array Value) (U : State), s.WarmedH U.vm → w.before a' U = true) (hcode : Cond.code y bytes maxL ret ∈ ws) (hini : (Cond.initialized y.cls).before args s = true)
    (hf : cells + mc ≤ R.cells ∧ slots + ms ≤ R.slots)
    {g : JFrame} (hg : g.method = m) (hsize : g.locals.size = c.maxLocals) {ig : Instr} {len : Nat} (hdg : decode c.code g.pc = .ok (ig, len)) (hW : 2 * g.monitorRoom + (g.stack.map fun v => v.category).sum ≤ 8)
    {mk : MethodId} (hn : T.methodNamed? y = some mk) {a : Array Value} (hP : Pc a (T.calling g mk a)) :
    ∃ (o : Outcome) (t T' : State) (L : List Loc), Stand p l e R s m args below meth c T' (locs ++ L) (cells + mc) (slots + ms) ∧ (∀ q ∈ L, free q.base) ∧ T'.heap = t.heap ∧ T'.vm = t.vm ∧ Qc a (T.calling g mk a) o t ∧
      (∀ v, o = .returned v → Steps p.tables e below (doInvoke e (T.setTop g) [] mk a).1 (T'.setTop { g with pc := g.pc + len, stack := v.toList ++ g.stack })) ∧
      (∀ x, o = .threw x → Steps p.tables e below (doInvoke e (T.setTop g) [] mk a).1 ((T'.setTop g).pushFrame (.throwing x))) := by
  have hpre : (headSpec ws rm).pre.before a T = true := atoms_intro fun w hw => hws w hw _ _ X.warmed
  have h2 : (Cond.code y bytes maxL ret).before a T = true := hws _ hcode _ _ X.warmed
  have h3 : (Cond.initialized y.cls).before a T = true := word_at X.warmed (Or.inl (by first | rfl | simp [Cond.onTables, Cond.keeps, Cond.steady])) hini
  obtain ⟨methY, cY, hmY, hcY, -, hlY, -⟩ := Cond.code_spec hn h2
  obtain ⟨kY, hkY, -⟩ := className_of_methodNamed hn
  have hinitY : kY.init = .initialized := Cond.initialized_spec (findClass_of_methodNamed hn) hkY h3
  have h : At T g.method c below := by rw [hg]; exact X.here
  have happ : (headSpec ws rm).appliesLoose y e.platform (T.calling g mk a) = true :=
    Spec.appliesLoose_calling (g := g) h hdg hn hkY hinitY
      (X.room_calling (g := g) (R' := (headSpec ws rm).room) hsize hmY hcY hframes (by rw [hlY]; show _ + (maxL + 11) + rm.locals ≤ _; omega) (by show cells + rm.cells ≤ _; rw [hrc]; exact hf.1) (by show slots + rm.slots ≤ _; rw [hrs]; exact hf.2)) hpre
  have hfr : (T.setTop g).frames = .java g :: below := by rw [State.frames_setTop' g h.top, X.tail]
  obtain ⟨o, t, hsteps, -, hend, hq0⟩ := Steps.callFree hM p X.admits X.cas X.clock (acts := []) (mid := [.java g]) (below := below) (by rw [hfr]; rfl) happ hP trivial
  obtain ⟨hq, L, ⟨hWt, hst⟩, hL⟩ := hq0
  rw [hfr] at hend
  cases o with
  | returned v =>
    obtain ⟨T', X', hW', hs', et⟩ := X.outOf hg hdg hend hWt hst
    refine ⟨.returned v, t, T', L, X', hL, ?_, ?_, hq, fun v' hv => ?_, fun x hx => ?_⟩
    · rw [et]; simp [State.setTop, State.modifyTopJava]
    · rw [et]; simp [State.setTop, State.modifyTopJava]
    · cases hv; rw [← et]; exact hsteps
    · cases hx
  | threw x =>
    obtain ⟨T', X', hW', hs', et⟩ := X.outOfThrown hg hend hWt hst
    refine ⟨.threw x, t, T', L, X', hL, ?_, ?_, hq, fun v' hv => ?_, fun x' hx => ?_⟩
    · rw [et]; exact (Stand.throwing_heap T' g x).symm
    · rw [et]; exact (Stand.throwing_vm T' g x).symm
    · cases hv
    · cases hx; rw [← et]; exact hsteps
/-- what comes back of a call that answers or throws -/
def kt_Run (p : Program) (l : Launch) (e : Env) (R : Room) (s : State) (m : MethodId) (args : Array Value) (below : List Frame) (meth : Method) (c : Code) (H : Heap) (locs : List Loc) (cells slots mc ms : Nat) (g : JFrame) (rest : List Value) (Qa : State → Outcome → State → Prop) (free : Addr → Prop) : Prop :=
  ∀ T : State, T.heap = H → Stand p l e R s m args below meth c T locs cells slots → ∃ (o : Outcome) (st₀ t T' : State) (L : List Loc), st₀.heap = H ∧ s.WarmedH st₀.vm ∧ Stand p l e R s m args below meth c T' (locs ++ L) (cells + mc) (slots + ms) ∧ (∀ q ∈ L, free q.base) ∧ T'.heap = t.heap ∧ T'.vm = t.vm ∧ Qa st₀ o t ∧
    (∀ v, o = .returned v → Goes p e below T g T' { g with pc := g.pc + 3, stack := v.toList ++ rest }) ∧ (∀ x, o = .threw x → Steps p.tables e below (T.setTop g) ((T'.setTop { g with stack := rest }).pushFrame (.throwing x)))
theorem kt_runV {y : MethodName} {bytes cc : ByteArray} {maxL nL mc ms n index : Nat} {ret : Option FieldType} {ws : List Cond} {rm : Room} {Pc : Array Value → State → Prop} {Qc : Array Value → State → Outcome → State → Prop} {free : Addr → Prop} {Ts : List Cond} {own C : String} {b : Addr} {As rest : List Value} {g : JFrame}
    (S : CallFix p m c cc nL s args Ts own) (hM : MetT l y ws rm Pc Qc mc ms free) (cw : CallW R s args own C index y bytes maxL ret ws rm mc ms n) (hp : PreV s H C b Pc As)
    (hg : g.method = m) (hn : As.length = n) (hsize : g.locals.size = nL) (hstack : g.stack = As.reverse ++ .ref b :: rest) (hW : 2 * g.monitorRoom + (rest.map fun v => v.category).sum ≤ 8) (hdg : decode cc g.pc = .ok (.invokevirtual index, 3)) (hf : cells + mc ≤ R.cells ∧ slots + ms ≤ R.slots) :
    kt_Run p l e R s m args below meth c H locs cells slots mc ms g rest (Qc (Value.ref b :: As).toArray) (free) := by
  obtain ⟨⟨hrc, hrs, hfr, hlo, hws, hcw, hcode, hini, hy, hlen, hl⟩, hin, hse⟩ := cw
  obtain ⟨hx, hb, hml, ho, -⟩ := S
  obtain ⟨hbl, ⟨cellB, hcB, hoB, hclB⟩, hPc⟩ := hp
  intro T hT X
  obtain ⟨mk, methM, hnamed, hmethM, hstM, habM⟩ := Cond.instanceMethod_spec hin
  obtain ⟨methM', cM, hmethM', -, -, -, -, -, -, hsigM⟩ := Cond.code_spec hnamed hcode
  cases hmethM.symm.trans hmethM'
  obtain ⟨c2, r2, m2, q1, q2, q3, q4, kP, hkP, hkPi⟩ := Cond.selects_spec hse
  cases hclB.symm.trans q1
  cases (State.methodFound?_of_named hnamed hy).symm.trans q2
  cases hnamed.symm.trans q3
  have hselP : selectMethod e.platform s.vm cellB.cls mk = .method mk := by rw [Launch.admits_selectMethod X.admits]; exact q4
  obtain ⟨vm₁, X₁, hstep₁⟩ := X.invokevirtual hx ho hl hnamed hmethM hstM hkP hkPi hy (a := b) (cell := cellB) (by rw [hT]; exact hcB)
    (fun z h => by rw [h] at hoB; cases hoB) hselP hmethM habM hkP hkPi (g := g) hg (argsL := As) (rest := rest) (hn.trans (hlen _ hsigM)) hstack (by rw [hb]; exact hdg)
  obtain ⟨o, t, T', L, X', hL, e1, e2, hq, hret, hthr⟩ := kt_back X₁ hM hrc hrs hfr hlo hws hcw hini hf (g := { g with stack := rest }) hg (hsize.trans hml.symm) (ig := .invokevirtual index) (len := 3) (by rw [hb]; exact hdg) hW (X₁.named hnamed) (a := (Value.ref b :: As).toArray)
    (hbl _ _ _ _ (hPc (T.setVm vm₁) hT X₁.warmed))
  refine ⟨o, (T.setVm vm₁).calling { g with stack := rest } mk (Value.ref b :: As).toArray, t, T', L, hT, X₁.warmed, X', hL, e1, e2, hq, fun v hv => ?_, fun x hx' => ?_⟩
  · intro target h
    exact hstep₁ _ fun acts => by rw [doInvoke_state]; exact (hret v hv).trans h
  · exact hstep₁ _ fun acts => by rw [doInvoke_state]; exact hthr x hx'
end KTA
/-! the exception: how it stands in the heap, and what a throw leaves as it was -/
def kt_X (xN : String) (st : State) (x : Addr) (t : State) : Prop :=
  st.heap.size ≤ t.heap.size ∧ (∀ q : Nat, q < st.heap.size → t.heap[q]? = st.heap[q]?) ∧ ∃ ce : Cell, t.heap[x]? = some ce ∧ ce.vm = .none ∧ st.vm.findClass xN = some ce.cls
/-- an end by an answer, or by a throw that changes nothing -/
def kt_Or (xN : String) (Qr : Array Value → State → Outcome → State → Prop) (thr : Prop) : Array Value → State → Outcome → State → Prop := fun a st oc t =>
  Qr a st oc t ∨ ∃ x, oc = .threw x ∧ thr ∧ kt_X xN st x t
/-- an answer that changes nothing -/
def kt_R (post : Option Value → Prop) : Array Value → State → Outcome → State → Prop := fun _ st oc t => ∃ v, oc = .returned v ∧ post v ∧ t.heap = st.heap
section KTB
variable {p : Program} {l : Launch} {e : Env} {R : Room} {s : State} {m : MethodId} {args : Array Value} {below : List Frame} {meth : Method} {c : Code} {H : Heap} {locs : List Loc} {cells slots : Nat} {Q : State → Prop}
theorem kt_same {t : State} {k n : Nat} (h : s.sameButNew ({ t with vm := s.vm } : State) [] k n) : s.heap.size ≤ t.heap.size ∧ ∀ q : Nat, q < s.heap.size → t.heap[q]? = s.heap[q]? := by
  obtain ⟨-, h1, -, -, -, h6⟩ := h
  refine ⟨h1, fun q hq => ?_⟩
  have hc : s.heap[q]? = some s.heap[q] := Array.getElem?_eq_getElem hq
  obtain ⟨c', g1, g2, g3, g4⟩ := h6 q _ hc
  have e1 : c'.slots = (s.heap[q]).slots := by
    apply Array.ext_getElem?
    intro i
    exact g4 i (by simp)
  have e2 : c' = s.heap[q] := by rw [g2, e1]
  rw [hc, ← e2]
  exact g1
/-- 'throw new X("text")', where nothing has been written yet -/
theorem kt_throw {cc : ByteArray} {own xN tx : String} {up : List String} {pc ia ib ic q : Nat} {ls : Array Slot} {Qc : Array Value → State → Outcome → State → Prop} {free : Addr → Prop}
    (hx : p.tables.exec = Jvm.exec) (htr : e.platform.stackTraces = false) (hb : c.code = cc) (hml : ls.size = c.maxLocals) (hown : s.vm.findClass own = some m.cls) (hne : c.exceptionTable.isEmpty = true) (hlocks : meth.locks = false)
    (hfit : Bundle.fit xN = true) (hup : ∀ n ∈ up, Bundle.fit n = true) (hat : ∀ w ∈ Bundle.ownAtoms own ic xN up, w.before args s = true)
    (hcl : (Cond.classLink own ia xN).before args s = true) (hins : (Cond.instantiable xN 6).before args s = true) (hini : (Cond.initialized xN).before args s = true) (hZ : vk_R own ib tx q s)
    (hH : s.heap.size ≤ H.size) (d0 : decode cc pc = .ok (.new ia, 3)) (d3 : decode cc (pc + 3) = .ok (.dup, 1)) (d4 : decode cc (pc + 4) = .ok (.ldc ib, 2)) (d6 : decode cc (pc + 6) = .ok (.invokespecial ic, 3)) (d9 : decode cc (pc + 9) = .ok (.athrow, 1))
    (hf : up.length + 3 < R.frames) (hlo : 1 + (13 * (up.length + 1) + 42) ≤ R.locals) (hc : cells + 1 ≤ R.cells) (hs : slots + 6 ≤ R.slots)
    (hq : ∀ (t : State) (x : Addr), s.WarmedH t.vm → kt_X xN s x t → Qc args s (.threw x) t) :
    W p l e R s m args below meth c H [] cells slots (kt_Q below Qc args s (cells + 1) (slots + 6) free) (F0 m pc ls []) := by
  refine W.newc hx hb hown hcl hins hini (g := F0 m pc ls []) rfl d0 hc hs ?_
  intro cC kC h1 h2 h3 h4
  refine lv_dup (pc := pc + 3) (ls := ls) (rest := []) hx hb d3 rfl ?_
  refine va_ldcS (pc := pc + 3 + 1) hx hb hown hZ d4 ?_
  intro T hT X
  have hcell : T.heap[H.size]? = some (freshCell cC kC) := by rw [hT]; simp [freshCell]
  obtain ⟨U, hsteps, hrun, hend, hW, hsame, ce, hce, K⟩ := X.ctorThrowS hx htr (own := own) (cls := xN) (names := up) (ic := ic) hown hfit hup hat (fun y hy => by cases hy) h1 h2 hcell hH (msg := .ref q) rfl
    (g := F0 m (pc + 6) ls [.ref q, .ref H.size, .ref H.size]) rfl hml rfl rfl (rest := []) rfl (by rw [hb]; exact d6) (by rw [hb]; exact d9) (covers_of_empty hne _) hf (by show 2 * 0 + _ + _ ≤ _; simp [Value.category]; omega) hlocks
  obtain ⟨k1, k2⟩ := kt_same hsame
  exact ⟨U, hsteps, .threw H.size, hrun, hend, hq U H.size hW ⟨k1, k2, ce, hce, K.vm, K.cls⟩, [], ⟨hW, hsame⟩, fun q hq => by cases hq⟩
/-- a call of a method that throws or changes nothing; the throw goes on to the caller's caller -/
theorem kt_callP {pc : Nat} {ls : Array Slot} {st0 rest : List Value} {a : Array Value} {mc ms mc' ms' : Nat} {xN : String} {post : Option Value → Prop} {thr : Prop} {Qc : Array Value → State → Outcome → State → Prop} {free : Addr → Prop}
    (hr : kt_Run p l e R s m args below meth c s.heap [] cells slots mc ms (F0 m pc ls st0) rest (kt_Or xN (kt_R post) thr a) (fun _ => False)) (hne : c.exceptionTable.isEmpty = true) (hlocks : meth.locks = false) (hc : cells + mc ≤ mc') (hs : slots + ms ≤ ms')
    (hq : ∀ (t : State) (x : Addr), thr → s.WarmedH t.vm → kt_X xN s x t → Qc args s (.threw x) t)
    (kk : ∀ v, post v → W p l e R s m args below meth c s.heap [] (cells + mc) (slots + ms) (kt_Q below Qc args s mc' ms' free) (F0 m (pc + 3) ls (v.toList ++ rest))) :
    W p l e R s m args below meth c s.heap [] cells slots (kt_Q below Qc args s mc' ms' free) (F0 m pc ls st0) := by
  intro T hT X
  obtain ⟨o, st₀, t, T', L, h0, hw0, X', hL, e1, e2, hqq, hret, hthr⟩ := hr T hT X
  have hL0 : L = [] := by
    cases L with
    | nil => rfl
    | cons z zs => exact (hL z List.mem_cons_self).elim
  subst hL0
  rcases hqq with ⟨v, rfl, hp, hh⟩ | ⟨x, rfl, ht, g1, g2, ce, g3, g4, g5⟩
  · obtain ⟨t2, a1, b1⟩ := kk v hp T' (by rw [e1, hh, h0]) X'
    exact ⟨t2, hret v rfl t2 a1, b1⟩
  · obtain ⟨w1, w2, w3, w4, w5⟩ := X'.leaveThrown x (g := F0 m pc ls rest) rfl rfl rfl (covers_of_empty hne _) hlocks
    refine ⟨_, (hthr x rfl).trans w1, .threw x, w2, w3, hq _ x ht w4 ⟨?_, ?_, ce, ?_, g4, ?_⟩, [], ⟨w4, w5.mono hc hs⟩, fun q hq => by cases hq⟩
    · show s.heap.size ≤ T'.heap.size
      rw [e1, ← h0]
      exact g1
    · intro q hq
      show T'.heap[q]? = _
      rw [e1, g2 q (by rw [h0]; exact hq), h0]
    · show T'.heap[x]? = _
      rw [e1]
      exact g3
    · rw [← hw0.alike.findClass]
      exact g5
end KTB
end
section
/-! what a throw reads of the tables and of the heap: carried from state to state -/
def kt_N : String := "java/lang/IllegalArgumentException"
def kt_U : List String := ["java/lang/RuntimeException", "java/lang/Exception"]
/-- old cells are kept -/
def kt_H (s U : State) : Prop := ∀ (q : Nat) (cell : Cell), s.heap[q]? = some cell → U.heap[q]? = some cell
theorem kt_lays {C n d : String} {A A' : Array Value} {s U : State} (hv : s.vm = U.vm) (hh : kt_H s U) (h : (Cond.laysStatic C n d).before A s = true) : (Cond.laysStatic C n d).before A' U = true := by
  have hf : ∀ a b c, U.fieldFound? a b c = s.fieldFound? a b c := fun a b c => by simp only [State.fieldFound?, hv]
  simp only [Cond.before, Cond.holds, Cond.value, hf, ← hv] at h ⊢
  cases h1 : s.vm.findClass C with
  | none => simp [h1] at h
  | some c =>
    cases h2 : s.fieldFound? C n d with
    | none => simp [h1, h2] at h
    | some x =>
      obtain ⟨c', k, i, f⟩ := x
      cases h3 : k.statics with
      | none => simp [h1, h2, h3] at h
      | some a =>
        cases h4 : s.heap[a]? with
        | none => simp [h1, h2, h3, h4] at h
        | some cell => simpa [h1, h2, h3, h4, hh a cell h4] using h
theorem kt_isRef {C n d : String} {A A' : Array Value} {s U : State} (hv : s.vm = U.vm) (hh : kt_H s U) (h : (Cond.isRef (.static C n d)).before A s = true) : (Cond.isRef (.static C n d)).before A' U = true := by
  have hf : ∀ a b c z, U.fieldNamed? a b c z = s.fieldNamed? a b c z := fun a b c z => by simp only [State.fieldNamed?, State.fieldFound?, hv]
  have he : ∀ v, (Term.static C n d).eval A s none [] s = some v → (Term.static C n d).eval A' U none [] U = some v := by
    intro v hv2
    simp only [Term.eval, hf] at hv2 ⊢
    cases h1 : s.fieldNamed? C n d true with
    | none => simp [h1] at hv2
    | some x =>
      obtain ⟨c', k, i⟩ := x
      cases h3 : k.statics with
      | none => simp [h1, h3] at hv2
      | some a =>
        cases h4 : s.heap[a]? with
        | none => simp [h1, h3, h4] at hv2
        | some cell => simpa [h1, h3, h4, hh a cell h4] using hv2
  simp only [Cond.before, Cond.holds, Cond.value] at h ⊢
  cases h1 : (Term.static C n d).eval A s none [] s with
  | none => simp [h1] at h
  | some v => rw [he v h1]; rw [h1] at h; exact h
/-- a throw's own words, at the class's one entry for the exception's constructor -/
def kt_At (U : State) : Prop := ∀ a ∈ Bundle.ownAtoms "GroupDesk" 82 kt_N kt_U, a.before #[] U = true
theorem kt_At.use {s : State} {A : Array Value} (h : kt_At s) : ∀ a ∈ Bundle.ownAtoms "GroupDesk" 82 kt_N kt_U, a.before A s = true := by
  intro a ha
  have h0 := h a ha
  by_cases hT : a.onTables = true
  · exact va_any hT h0
  · simp only [Bundle.ownAtoms, Bundle.throwableAtoms, Bundle.throwableSAtoms, Bundle.chainSAtoms, Bundle.passSAtoms, kt_U, List.cons_append, List.nil_append, List.append_assoc, List.mem_cons, List.not_mem_nil, or_false] at ha
    rcases ha with rfl | rfl | rfl | rfl | rfl | rfl | rfl | rfl | rfl | rfl | rfl | rfl | rfl | rfl | rfl | rfl | rfl | rfl | rfl | rfl | rfl | rfl | rfl | rfl | rfl | rfl | rfl | rfl | rfl | rfl | rfl | rfl | rfl | rfl | rfl | rfl | rfl | rfl | rfl | rfl | rfl | rfl | rfl | rfl | rfl | rfl | rfl | rfl | rfl | rfl | rfl | rfl | rfl | rfl | rfl | rfl | rfl
    all_goals first | exact absurd rfl hT | exact kt_lays rfl (fun _ _ h => h) h0 | exact kt_isRef rfl (fun _ _ h => h) h0
theorem kt_At.to {s U : State} (h : kt_At s) (hW : s.WarmedH U.vm) (hh : kt_H s U) : kt_At U := by
  intro a ha
  have h0 : a.before #[] (s.setVm U.vm) = true := Cond.before_shiftedFace (State.Shifted.of_warmed hW) a (Bundle.ownAtoms_keepsFace a ha) (h a ha)
  have hv : (s.setVm U.vm).vm = U.vm := rfl
  have hh' : kt_H (s.setVm U.vm) U := hh
  by_cases hT : a.onTables = true
  · exact va_tabs hT hv h0
  · simp only [Bundle.ownAtoms, Bundle.throwableAtoms, Bundle.throwableSAtoms, Bundle.chainSAtoms, Bundle.passSAtoms, kt_U, List.cons_append, List.nil_append, List.append_assoc, List.mem_cons, List.not_mem_nil, or_false] at ha
    rcases ha with rfl | rfl | rfl | rfl | rfl | rfl | rfl | rfl | rfl | rfl | rfl | rfl | rfl | rfl | rfl | rfl | rfl | rfl | rfl | rfl | rfl | rfl | rfl | rfl | rfl | rfl | rfl | rfl | rfl | rfl | rfl | rfl | rfl | rfl | rfl | rfl | rfl | rfl | rfl | rfl | rfl | rfl | rfl | rfl | rfl | rfl | rfl | rfl | rfl | rfl | rfl | rfl | rfl | rfl | rfl | rfl | rfl
    all_goals first | exact absurd rfl hT | exact kt_lays hv hh' h0 | exact kt_isRef hv hh' h0
/-- the texts -/
def kt_T : List (Nat × String) := [(141, "there is no such group"), (143, "there is no such member"), (145, "there is no such log"), (80, "the offset is below 0"), (107, "what is not 0 .. 4"), (114, "n is not 0 .. 100000"), (127, "n is not 1 .. 200"), (130, "TIME would be above 1000000")]
def kt_St (U : State) : Prop := ∀ q ∈ kt_T, (Cond.stringRef "GroupDesk" q.1 q.2).before #[] U = true
theorem kt_St.to {s U : State} (h : kt_St s) (hW : s.WarmedH U.vm) : kt_St U := by
  intro q hq
  have h0 := Cond.stringRef_warmed hW (h q hq)
  exact h0
theorem kt_St.use {s : State} {cur : ClassId} (h : kt_St s) (hcur : s.vm.findClass "GroupDesk" = some cur) {k : Nat} {tx : String} (hq : (k, tx) ∈ kt_T) : ∃ q, vk_R "GroupDesk" k tx q s := by
  have h1 := h _ hq
  obtain ⟨k', cf, i, a, -, -, -, -, -, hev⟩ := Cond.stringRef_spec (args := #[]) (first := s) (o := none) (idx := []) hcur h1
  exact ⟨a, vk_R.of h1 hev⟩
def kt_Z (U : State) : Prop := kt_At U ∧ kt_St U
theorem kt_Z.to {s U : State} (h : kt_Z s) (hW : s.WarmedH U.vm) (hh : kt_H s U) : kt_Z U := ⟨h.1.to hW hh, h.2.to hW⟩
def kPreT (D : va_G) (cl : List vw_C) (tys : List (ClassId × FieldType)) (As : List Value) (sz : Nat) (ws : va_W) : Array Value → State → Prop := fun v U => kPre D cl tys As sz ws v U ∧ kt_Z U
theorem kPreT_blind {D : va_G} {cl : List vw_C} {tys : List (ClassId × FieldType)} {As : List Value} {sz : Nat} {ws : va_W} : FrameBlind (kPreT D cl tys As sz ws) := fun a U g mk q => ⟨kPre_blind a U g mk q.1, q.2.to (U := U.calling g mk a) (State.WarmedH.refl U) (fun _ _ h => h)⟩
theorem kPVT {s : State} {D : va_G} {cl : List vw_C} {tys : List (ClassId × FieldType)} {As : List Value} {ws : va_W} {b : Nat} {C : String} {H : Heap} (hr : ∃ cell : Cell, H[b]? = some cell ∧ cell.vm.isStatics = false ∧ s.vm.findClass C = some cell.cls) (hP : va_P D cl ws H) (hK : va_K D cl tys s) (hZ : kt_Z s) (hh : ∀ (q : Nat) (cell : Cell), s.heap[q]? = some cell → H[q]? = some cell) : PreV s H C b (kPreT D cl tys (.ref b :: As) H.size ws) As :=
  ⟨kPreT_blind, hr, fun U hU hW => ⟨⟨rfl, by rw [hU], by rw [hU]; exact hP, va_K.moved hW.alike hK⟩, hZ.to hW (fun q cell h => by rw [hU]; exact hh q cell h)⟩⟩
end
