/-! classes, their fields, methods: names -/
abbrev R_D : String := "GroupDesk"
abbrev R_N : String := "GroupDesk$Notebook"
abbrev R_G : String := "GroupDesk$Group"
abbrev R_M : String := "GroupDeskModel"
abbrev R_L : String := "GroupDeskLaw"
abbrev R_JI : String := "java/lang/Integer"
abbrev R_JA : String := "java/util/Arrays"
def F_D : u_T := fun k => match k with
  | 0 => ("GroupDesk", "logs", "I", true)
  | 1 => ("GroupDesk", "groups", "[LGroupDesk$Group;", true)
  | 2 => ("GroupDesk", "notebook", "LGroupDesk$Notebook;", true)
  | _ => ("GroupDesk", "time", "I", false)
def t_D : Nat → FieldType := fun k => match k with
  | 0 => .int
  | 1 => .array (.object "GroupDesk$Group")
  | 2 => .object "GroupDesk$Notebook"
  | _ => .int
theorem n_D : ∀ a, a < 4 → ∀ b, b < 4 → a ≠ b → (F_D a).2.1 ≠ (F_D b).2.1 := by decide +kernel
theorem t_D_ok : ∀ k, k < 4 → parseFieldDescriptor (F_D k).2.2.1 = some (t_D k) := by decide +kernel
theorem i_D : ∀ w ∈ u_ws R_D F_D 4, w ∈ kb_B := by
  intro w hw
  have h : w ∈ ([.laysFinal "GroupDesk" "GroupDesk" "logs" "I", .laysFinal "GroupDesk" "GroupDesk" "groups" "[LGroupDesk$Group;", .laysFinal "GroupDesk" "GroupDesk" "notebook" "LGroupDesk$Notebook;", .lays "GroupDesk" "GroupDesk" "time" "I"] : List Cond) := hw
  simp only [List.mem_cons, List.not_mem_nil, or_false] at h
  rcases h with rfl | rfl | rfl | rfl
  · exact kb_86
  · exact kb_88
  · exact kb_90
  · exact kb_92
def F_N : u_T := fun k => match k with
  | 0 => ("GroupDesk$Notebook", "left", "I", false)
  | _ => ("GroupDesk$Notebook", "written", "I", false)
def t_N : Nat → FieldType := fun k => match k with
  | 0 => .int
  | _ => .int
theorem n_N : ∀ a, a < 2 → ∀ b, b < 2 → a ≠ b → (F_N a).2.1 ≠ (F_N b).2.1 := by decide +kernel
theorem t_N_ok : ∀ k, k < 2 → parseFieldDescriptor (F_N k).2.2.1 = some (t_N k) := by decide +kernel
theorem i_N : ∀ w ∈ u_ws R_N F_N 2, w ∈ kb_B := by
  intro w hw
  have h : w ∈ ([.lays "GroupDesk$Notebook" "GroupDesk$Notebook" "left" "I", .lays "GroupDesk$Notebook" "GroupDesk$Notebook" "written" "I"] : List Cond) := hw
  simp only [List.mem_cons, List.not_mem_nil, or_false] at h
  rcases h with rfl | rfl
  · exact kb_36
  · exact kb_38
def F_G : u_T := fun k => match k with
  | 0 => ("GroupDesk$Group", "generation", "I", false)
  | 1 => ("GroupDesk$Group", "state", "I", false)
  | 2 => ("GroupDesk$Group", "members", "I", false)
  | 3 => ("GroupDesk$Group", "joined", "I", false)
  | 4 => ("GroupDesk$Group", "limit", "I", false)
  | 5 => ("GroupDesk$Group", "heard", "[I", true)
  | _ => ("GroupDesk$Group", "offsets", "[J", true)
def t_G : Nat → FieldType := fun k => match k with
  | 0 => .int
  | 1 => .int
  | 2 => .int
  | 3 => .int
  | 4 => .int
  | 5 => .array .int
  | _ => .array .long
theorem n_G : ∀ a, a < 7 → ∀ b, b < 7 → a ≠ b → (F_G a).2.1 ≠ (F_G b).2.1 := by decide +kernel
theorem t_G_ok : ∀ k, k < 7 → parseFieldDescriptor (F_G k).2.2.1 = some (t_G k) := by decide +kernel
theorem i_G : ∀ w ∈ u_ws R_G F_G 7, w ∈ kb_B := by
  intro w hw
  have h : w ∈ ([.lays "GroupDesk$Group" "GroupDesk$Group" "generation" "I", .lays "GroupDesk$Group" "GroupDesk$Group" "state" "I", .lays "GroupDesk$Group" "GroupDesk$Group" "members" "I", .lays "GroupDesk$Group" "GroupDesk$Group" "joined" "I", .lays "GroupDesk$Group" "GroupDesk$Group" "limit" "I", .laysFinal "GroupDesk$Group" "GroupDesk$Group" "heard" "[I", .laysFinal "GroupDesk$Group" "GroupDesk$Group" "offsets" "[J"] : List Cond) := hw
  simp only [List.mem_cons, List.not_mem_nil, or_false] at h
  rcases h with rfl | rfl | rfl | rfl | rfl | rfl | rfl
  · exact kb_65
  · exact kb_67
  · exact kb_69
  · exact kb_71
  · exact kb_73
  · exact kb_75
  · exact kb_77
def F_M : u_T := fun k => match k with
  | 0 => ("GroupDeskModel", "code", "I", false)
  | 1 => ("GroupDeskModel", "logs", "I", true)
  | 2 => ("GroupDeskModel", "time", "I", false)
  | 3 => ("GroupDeskModel", "room", "I", false)
  | 4 => ("GroupDeskModel", "notes", "I", false)
  | 5 => ("GroupDeskModel", "state", "[I", true)
  | 6 => ("GroupDeskModel", "generation", "[I", true)
  | 7 => ("GroupDeskModel", "limit", "[I", true)
  | 8 => ("GroupDeskModel", "member", "[Z", true)
  | 9 => ("GroupDeskModel", "joined", "[Z", true)
  | 10 => ("GroupDeskModel", "heard", "[I", true)
  | _ => ("GroupDeskModel", "offset", "[J", true)
def t_M : Nat → FieldType := fun k => match k with
  | 0 => .int
  | 1 => .int
  | 2 => .int
  | 3 => .int
  | 4 => .int
  | 5 => .array .int
  | 6 => .array .int
  | 7 => .array .int
  | 8 => .array .boolean
  | 9 => .array .boolean
  | 10 => .array .int
  | _ => .array .long
theorem n_M : ∀ a, a < 12 → ∀ b, b < 12 → a ≠ b → (F_M a).2.1 ≠ (F_M b).2.1 := by decide +kernel
theorem t_M_ok : ∀ k, k < 12 → parseFieldDescriptor (F_M k).2.2.1 = some (t_M k) := by decide +kernel
theorem i_M : ∀ w ∈ u_ws R_M F_M 12, w ∈ kb_B := by
  intro w hw
  have h : w ∈ ([.lays "GroupDeskModel" "GroupDeskModel" "code" "I", .laysFinal "GroupDeskModel" "GroupDeskModel" "logs" "I", .lays "GroupDeskModel" "GroupDeskModel" "time" "I", .lays "GroupDeskModel" "GroupDeskModel" "room" "I", .lays "GroupDeskModel" "GroupDeskModel" "notes" "I", .laysFinal "GroupDeskModel" "GroupDeskModel" "state" "[I", .laysFinal "GroupDeskModel" "GroupDeskModel" "generation" "[I", .laysFinal "GroupDeskModel" "GroupDeskModel" "limit" "[I", .laysFinal "GroupDeskModel" "GroupDeskModel" "member" "[Z", .laysFinal "GroupDeskModel" "GroupDeskModel" "joined" "[Z", .laysFinal "GroupDeskModel" "GroupDeskModel" "heard" "[I", .laysFinal "GroupDeskModel" "GroupDeskModel" "offset" "[J"] : List Cond) := hw
  simp only [List.mem_cons, List.not_mem_nil, or_false] at h
  rcases h with rfl | rfl | rfl | rfl | rfl | rfl | rfl | rfl | rfl | rfl | rfl | rfl
  · exact kb_348
  · exact kb_350
  · exact kb_352
  · exact kb_354
  · exact kb_356
  · exact kb_358
  · exact kb_360
  · exact kb_362
  · exact kb_364
  · exact kb_366
  · exact kb_368
  · exact kb_370
abbrev vwCl : List vw_C := [(R_D, F_D, 4), (R_N, F_N, 2), (R_G, F_G, 7), (R_M, F_M, 12)]
abbrev b_D_init : ByteArray := prog_1_method_1_code
abbrev y_D_init : MethodName := ⟨"GroupDesk", "<init>", "(I)V"⟩
abbrev w_D_init : List Cond := .code y_D_init b_D_init 3 none :: kb_B
abbrev b_N_init : ByteArray := prog_3_method_1_code
abbrev y_N_init : MethodName := ⟨"GroupDesk$Notebook", "<init>", "()V"⟩
abbrev w_N_init : List Cond := .code y_N_init b_N_init 1 none :: kb_B
abbrev b_G_init : ByteArray := prog_2_method_1_code
abbrev y_G_init : MethodName := ⟨"GroupDesk$Group", "<init>", "()V"⟩
abbrev w_G_init : List Cond := .code y_G_init b_G_init 1 none :: kb_B
abbrev b_JA_fillL : ByteArray := prog_13_method_101_code
abbrev y_JA_fillL : MethodName := ⟨"java/util/Arrays", "fill", "([JJ)V"⟩
abbrev w_JA_fillL : List Cond := .code y_JA_fillL b_JA_fillL 5 none :: kb_B
abbrev b_D_restart : ByteArray := prog_1_method_10_code
abbrev y_D_restart : MethodName := ⟨"GroupDesk", "restart", "()I"⟩
abbrev w_D_restart : List Cond := .code y_D_restart b_D_restart 3 (some .int) :: kb_B
abbrev b_JI_bitCount : ByteArray := prog_8_method_49_code
abbrev y_JI_bitCount : MethodName := ⟨"java/lang/Integer", "bitCount", "(I)I"⟩
abbrev w_JI_bitCount : List Cond := .code y_JI_bitCount b_JI_bitCount 1 (some .int) :: kb_B
abbrev b_G_clear : ByteArray := prog_2_method_4_code
abbrev y_G_clear : MethodName := ⟨"GroupDesk$Group", "clear", "()V"⟩
abbrev w_G_clear : List Cond := .code y_G_clear b_G_clear 1 none :: kb_B
abbrev b_D_notes : ByteArray := prog_1_method_12_code
abbrev y_D_notes : MethodName := ⟨"GroupDesk", "notes", "()I"⟩
abbrev w_D_notes : List Cond := .code y_D_notes b_D_notes 1 (some .int) :: kb_B
abbrev b_L_cell : ByteArray := method_2_code
abbrev y_L_cell : MethodName := ⟨"GroupDeskLaw", "cell", "([II)I"⟩
abbrev w_L_cell : List Cond := .code y_L_cell b_L_cell 2 (some .int) :: kb_B
abbrev b_L_join : ByteArray := method_3_code
abbrev y_L_join : MethodName := ⟨"GroupDeskLaw", "join", "(LGroupDesk;II[J)I"⟩
abbrev w_L_join : List Cond := .codeWith y_L_join b_L_join 5 (some .int) [(0, 10, 13, 13)] :: kb_B
abbrev b_D_join : ByteArray := prog_1_method_2_code
abbrev y_D_join : MethodName := ⟨"GroupDesk", "join", "(II)I"⟩
abbrev w_D_join : List Cond := .code y_D_join b_D_join 4 (some .int) :: kb_B
abbrev b_D_groupAt : ByteArray := prog_1_method_14_code
abbrev y_D_groupAt : MethodName := ⟨"GroupDesk", "groupAt", "(I)LGroupDesk$Group;"⟩
abbrev w_D_groupAt : List Cond := .code y_D_groupAt b_D_groupAt 2 (some (.object "GroupDesk$Group")) :: kb_B
abbrev b_D_checkMember : ByteArray := prog_1_method_15_code
abbrev y_D_checkMember : MethodName := ⟨"GroupDesk", "checkMember", "(I)V"⟩
abbrev w_D_checkMember : List Cond := .code y_D_checkMember b_D_checkMember 2 none :: kb_B
abbrev b_G_takeIn : ByteArray := prog_2_method_6_code
abbrev y_G_takeIn : MethodName := ⟨"GroupDesk$Group", "takeIn", "(II)V"⟩
abbrev w_G_takeIn : List Cond := .code y_G_takeIn b_G_takeIn 3 none :: kb_B
abbrev b_G_mix : ByteArray := prog_2_method_5_code
abbrev y_G_mix : MethodName := ⟨"GroupDesk$Group", "mix", "(I)V"⟩
abbrev w_G_mix : List Cond := .code y_G_mix b_G_mix 2 none :: kb_B
abbrev b_G_finishMixing : ByteArray := prog_2_method_9_code
abbrev y_G_finishMixing : MethodName := ⟨"GroupDesk$Group", "finishMixing", "(ILGroupDesk$Notebook;)V"⟩
abbrev w_G_finishMixing : List Cond := .code y_G_finishMixing b_G_finishMixing 3 none :: kb_B
abbrev b_N_write : ByteArray := prog_3_method_2_code
abbrev y_N_write : MethodName := ⟨"GroupDesk$Notebook", "write", "()Z"⟩
abbrev w_N_write : List Cond := .code y_N_write b_N_write 1 (some .boolean) :: kb_B
abbrev b_G_settle : ByteArray := prog_2_method_10_code
abbrev y_G_settle : MethodName := ⟨"GroupDesk$Group", "settle", "(I)V"⟩
abbrev w_G_settle : List Cond := .code y_G_settle b_G_settle 2 none :: kb_B
abbrev b_JA_fillI : ByteArray := prog_13_method_103_code
abbrev y_JA_fillI : MethodName := ⟨"java/util/Arrays", "fill", "([II)V"⟩
abbrev w_JA_fillI : List Cond := .code y_JA_fillI b_JA_fillI 4 none :: kb_B
abbrev b_L_leave : ByteArray := method_4_code
abbrev y_L_leave : MethodName := ⟨"GroupDeskLaw", "leave", "(LGroupDesk;II[J)I"⟩
abbrev w_L_leave : List Cond := .codeWith y_L_leave b_L_leave 5 (some .int) [(0, 10, 13, 13)] :: kb_B
abbrev b_D_leave : ByteArray := prog_1_method_3_code
abbrev y_D_leave : MethodName := ⟨"GroupDesk", "leave", "(II)I"⟩
abbrev w_D_leave : List Cond := .code y_D_leave b_D_leave 4 (some .int) :: kb_B
abbrev b_G_has : ByteArray := prog_2_method_2_code
abbrev y_G_has : MethodName := ⟨"GroupDesk$Group", "has", "(I)Z"⟩
abbrev w_G_has : List Cond := .code y_G_has b_G_has 2 (some .boolean) :: kb_B
abbrev b_G_putOut : ByteArray := prog_2_method_7_code
abbrev y_G_putOut : MethodName := ⟨"GroupDesk$Group", "putOut", "(II)V"⟩
abbrev w_G_putOut : List Cond := .code y_G_putOut b_G_putOut 3 none :: kb_B
abbrev b_L_beat : ByteArray := method_5_code
abbrev y_L_beat : MethodName := ⟨"GroupDeskLaw", "beat", "(LGroupDesk;III[J)I"⟩
abbrev w_L_beat : List Cond := .codeWith y_L_beat b_L_beat 6 (some .int) [(0, 12, 15, 13)] :: kb_B
abbrev b_D_beat : ByteArray := prog_1_method_4_code
abbrev y_D_beat : MethodName := ⟨"GroupDesk", "beat", "(III)I"⟩
abbrev w_D_beat : List Cond := .code y_D_beat b_D_beat 5 (some .int) :: kb_B
abbrev b_G_hasJoined : ByteArray := prog_2_method_3_code
abbrev y_G_hasJoined : MethodName := ⟨"GroupDesk$Group", "hasJoined", "(I)Z"⟩
abbrev w_G_hasJoined : List Cond := .code y_G_hasJoined b_G_hasJoined 2 (some .boolean) :: kb_B
abbrev b_L_commit : ByteArray := method_6_code
abbrev y_L_commit : MethodName := ⟨"GroupDeskLaw", "commit", "(LGroupDesk;IIIIJ[J)I"⟩
abbrev w_L_commit : List Cond := .codeWith y_L_commit b_L_commit 9 (some .int) [(0, 16, 19, 13)] :: kb_B
abbrev b_D_commit : ByteArray := prog_1_method_5_code
abbrev y_D_commit : MethodName := ⟨"GroupDesk", "commit", "(IIIIJ)I"⟩
abbrev w_D_commit : List Cond := .code y_D_commit b_D_commit 9 (some .int) :: kb_B
abbrev b_D_checkLog : ByteArray := prog_1_method_16_code
abbrev y_D_checkLog : MethodName := ⟨"GroupDesk", "checkLog", "(I)V"⟩
abbrev w_D_checkLog : List Cond := .code y_D_checkLog b_D_checkLog 2 none :: kb_B
abbrev b_G_refusalOf : ByteArray := prog_2_method_13_code
abbrev y_G_refusalOf : MethodName := ⟨"GroupDesk$Group", "refusalOf", "(III)I"⟩
abbrev w_G_refusalOf : List Cond := .code y_G_refusalOf b_G_refusalOf 4 (some .int) :: kb_B
abbrev b_G_gives : ByteArray := prog_2_method_12_code
abbrev y_G_gives : MethodName := ⟨"GroupDesk$Group", "gives", "(II)Z"⟩
abbrev w_G_gives : List Cond := .code y_G_gives b_G_gives 5 (some .boolean) :: kb_B
abbrev b_L_committed : ByteArray := method_7_code
abbrev y_L_committed : MethodName := ⟨"GroupDeskLaw", "committed", "(LGroupDesk;II[J)I"⟩
abbrev w_L_committed : List Cond := .codeWith y_L_committed b_L_committed 5 (some .int) [(0, 9, 12, 13)] :: kb_B
abbrev b_D_committed : ByteArray := prog_1_method_6_code
abbrev y_D_committed : MethodName := ⟨"GroupDesk", "committed", "(II)J"⟩
abbrev w_D_committed : List Cond := .code y_D_committed b_D_committed 4 (some .long) :: kb_B
abbrev b_L_group : ByteArray := method_8_code
abbrev y_L_group : MethodName := ⟨"GroupDeskLaw", "group", "(LGroupDesk;II[J)I"⟩
abbrev w_L_group : List Cond := .codeWith y_L_group b_L_group 5 (some .int) [(0, 10, 13, 13)] :: kb_B
abbrev b_D_group : ByteArray := prog_1_method_7_code
abbrev y_D_group : MethodName := ⟨"GroupDesk", "group", "(II)I"⟩
abbrev w_D_group : List Cond := .code y_D_group b_D_group 4 (some .int) :: kb_B
abbrev b_G_ticksToLimit : ByteArray := prog_2_method_11_code
abbrev y_G_ticksToLimit : MethodName := ⟨"GroupDesk$Group", "ticksToLimit", "(I)I"⟩
abbrev w_G_ticksToLimit : List Cond := .code y_G_ticksToLimit b_G_ticksToLimit 2 (some .int) :: kb_B
abbrev b_L_share : ByteArray := method_9_code
abbrev y_L_share : MethodName := ⟨"GroupDeskLaw", "share", "(LGroupDesk;II[J)I"⟩
abbrev w_L_share : List Cond := .codeWith y_L_share b_L_share 5 (some .int) [(0, 10, 13, 13)] :: kb_B
abbrev b_D_share : ByteArray := prog_1_method_8_code
abbrev y_D_share : MethodName := ⟨"GroupDesk", "share", "(II)I"⟩
abbrev w_D_share : List Cond := .code y_D_share b_D_share 6 (some .int) :: kb_B
abbrev b_L_room : ByteArray := method_10_code
abbrev y_L_room : MethodName := ⟨"GroupDeskLaw", "room", "(LGroupDesk;I[J)I"⟩
abbrev w_L_room : List Cond := .codeWith y_L_room b_L_room 4 (some .int) [(0, 9, 12, 13)] :: kb_B
abbrev b_D_room : ByteArray := prog_1_method_9_code
abbrev y_D_room : MethodName := ⟨"GroupDesk", "room", "(I)I"⟩
abbrev w_D_room : List Cond := .code y_D_room b_D_room 3 (some .int) :: kb_B
abbrev b_L_ticks : ByteArray := method_11_code
abbrev y_L_ticks : MethodName := ⟨"GroupDeskLaw", "ticks", "(LGroupDesk;I[J)I"⟩
abbrev w_L_ticks : List Cond := .codeWith y_L_ticks b_L_ticks 4 (some .int) [(0, 9, 12, 13)] :: kb_B
abbrev b_D_ticks : ByteArray := prog_1_method_11_code
abbrev y_D_ticks : MethodName := ⟨"GroupDesk", "ticks", "(I)I"⟩
abbrev w_D_ticks : List Cond := .code y_D_ticks b_D_ticks 3 (some .int) :: kb_B
abbrev b_D_tick : ByteArray := prog_1_method_13_code
abbrev y_D_tick : MethodName := ⟨"GroupDesk", "tick", "()V"⟩
abbrev w_D_tick : List Cond := .code y_D_tick b_D_tick 2 none :: kb_B
abbrev b_G_dropSilent : ByteArray := prog_2_method_8_code
abbrev y_G_dropSilent : MethodName := ⟨"GroupDesk$Group", "dropSilent", "(I)V"⟩
abbrev w_G_dropSilent : List Cond := .code y_G_dropSilent b_G_dropSilent 4 none :: kb_B
abbrev b_M_init : ByteArray := prog_5_method_1_code
abbrev y_M_init : MethodName := ⟨"GroupDeskModel", "<init>", "(I)V"⟩
abbrev w_M_init : List Cond := .code y_M_init b_M_init 4 none :: kb_B
abbrev b_M_thrown : ByteArray := prog_5_method_2_code
abbrev y_M_thrown : MethodName := ⟨"GroupDeskModel", "thrown", "()I"⟩
abbrev w_M_thrown : List Cond := .code y_M_thrown b_M_thrown 1 (some .int) :: kb_B
abbrev b_M_join : ByteArray := prog_5_method_12_code
abbrev y_M_join : MethodName := ⟨"GroupDeskModel", "join", "(II)I"⟩
abbrev w_M_join : List Cond := .code y_M_join b_M_join 3 (some .int) :: kb_B
abbrev b_M_isOne : ByteArray := prog_5_method_4_code
abbrev y_M_isOne : MethodName := ⟨"GroupDeskModel", "isOne", "(I)Z"⟩
abbrev w_M_isOne : List Cond := .code y_M_isOne b_M_isOne 1 (some .boolean) :: kb_B
abbrev b_M_goes : ByteArray := prog_5_method_3_code
abbrev y_M_goes : MethodName := ⟨"GroupDeskModel", "goes", "(Z)Z"⟩
abbrev w_M_goes : List Cond := .code y_M_goes b_M_goes 2 (some .boolean) :: kb_B
abbrev b_M_mixes : ByteArray := prog_5_method_8_code
abbrev y_M_mixes : MethodName := ⟨"GroupDeskModel", "mixes", "(I)V"⟩
abbrev w_M_mixes : List Cond := .code y_M_mixes b_M_mixes 3 none :: kb_B
abbrev b_M_mayBeDone : ByteArray := prog_5_method_9_code
abbrev y_M_mayBeDone : MethodName := ⟨"GroupDeskModel", "mayBeDone", "(I)V"⟩
abbrev w_M_mayBeDone : List Cond := .code y_M_mayBeDone b_M_mayBeDone 5 none :: kb_B
abbrev b_M_count : ByteArray := prog_5_method_5_code
abbrev y_M_count : MethodName := ⟨"GroupDeskModel", "count", "(I)I"⟩
abbrev w_M_count : List Cond := .code y_M_count b_M_count 4 (some .int) :: kb_B
abbrev b_M_joinedOf : ByteArray := prog_5_method_6_code
abbrev y_M_joinedOf : MethodName := ⟨"GroupDeskModel", "joinedOf", "(I)I"⟩
abbrev w_M_joinedOf : List Cond := .code y_M_joinedOf b_M_joinedOf 4 (some .int) :: kb_B
abbrev b_M_empties : ByteArray := prog_5_method_10_code
abbrev y_M_empties : MethodName := ⟨"GroupDeskModel", "empties", "(I)V"⟩
abbrev w_M_empties : List Cond := .code y_M_empties b_M_empties 3 none :: kb_B
abbrev b_M_takesNote : ByteArray := prog_5_method_7_code
abbrev y_M_takesNote : MethodName := ⟨"GroupDeskModel", "takesNote", "()Z"⟩
abbrev w_M_takesNote : List Cond := .code y_M_takesNote b_M_takesNote 1 (some .boolean) :: kb_B
abbrev b_M_leave : ByteArray := prog_5_method_13_code
abbrev y_M_leave : MethodName := ⟨"GroupDeskModel", "leave", "(II)I"⟩
abbrev w_M_leave : List Cond := .code y_M_leave b_M_leave 3 (some .int) :: kb_B
abbrev b_M_without : ByteArray := prog_5_method_11_code
abbrev y_M_without : MethodName := ⟨"GroupDeskModel", "without", "(I)V"⟩
abbrev w_M_without : List Cond := .code y_M_without b_M_without 2 none :: kb_B
abbrev b_M_beat : ByteArray := prog_5_method_14_code
abbrev y_M_beat : MethodName := ⟨"GroupDeskModel", "beat", "(III)I"⟩
abbrev w_M_beat : List Cond := .code y_M_beat b_M_beat 4 (some .int) :: kb_B
abbrev b_M_commit : ByteArray := prog_5_method_16_code
abbrev y_M_commit : MethodName := ⟨"GroupDeskModel", "commit", "(IIIIJ)I"⟩
abbrev w_M_commit : List Cond := .code y_M_commit b_M_commit 7 (some .int) :: kb_B
abbrev b_M_owner : ByteArray := prog_5_method_15_code
abbrev y_M_owner : MethodName := ⟨"GroupDeskModel", "owner", "(II)I"⟩
abbrev w_M_owner : List Cond := .code y_M_owner b_M_owner 5 (some .int) :: kb_B
abbrev b_M_committed : ByteArray := prog_5_method_17_code
abbrev y_M_committed : MethodName := ⟨"GroupDeskModel", "committed", "(II)J"⟩
abbrev w_M_committed : List Cond := .code y_M_committed b_M_committed 3 (some .long) :: kb_B
abbrev b_M_group : ByteArray := prog_5_method_18_code
abbrev y_M_group : MethodName := ⟨"GroupDeskModel", "group", "(II)I"⟩
abbrev w_M_group : List Cond := .code y_M_group b_M_group 6 (some .int) :: kb_B
abbrev b_M_share : ByteArray := prog_5_method_19_code
abbrev y_M_share : MethodName := ⟨"GroupDeskModel", "share", "(II)I"⟩
abbrev w_M_share : List Cond := .code y_M_share b_M_share 5 (some .int) :: kb_B
abbrev b_M_room : ByteArray := prog_5_method_20_code
abbrev y_M_room : MethodName := ⟨"GroupDeskModel", "room", "(I)I"⟩
abbrev w_M_room : List Cond := .code y_M_room b_M_room 3 (some .int) :: kb_B
abbrev b_M_restart : ByteArray := prog_5_method_21_code
abbrev y_M_restart : MethodName := ⟨"GroupDeskModel", "restart", "()I"⟩
abbrev w_M_restart : List Cond := .code y_M_restart b_M_restart 3 (some .int) :: kb_B
abbrev b_M_ticks : ByteArray := prog_5_method_23_code
abbrev y_M_ticks : MethodName := ⟨"GroupDeskModel", "ticks", "(I)I"⟩
abbrev w_M_ticks : List Cond := .code y_M_ticks b_M_ticks 4 (some .int) :: kb_B
abbrev b_M_tick : ByteArray := prog_5_method_22_code
abbrev y_M_tick : MethodName := ⟨"GroupDeskModel", "tick", "(I)V"⟩
abbrev w_M_tick : List Cond := .code y_M_tick b_M_tick 4 none :: kb_B
abbrev b_M_notes : ByteArray := prog_5_method_24_code
abbrev y_M_notes : MethodName := ⟨"GroupDeskModel", "notes", "()I"⟩
abbrev w_M_notes : List Cond := .code y_M_notes b_M_notes 1 (some .int) :: kb_B
abbrev b_L_law : ByteArray := code
abbrev y_L_law : MethodName := ⟨"GroupDeskLaw", "law", "([I)Z"⟩
