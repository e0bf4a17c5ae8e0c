-- ===== PART A: goes FIRST, ahead of the names: the tables' words, and 'selects' of the private methods out of them =====
/-- a private method of a class that the tables say can be made, by its rows of tables_1 -/
def lw_okq (q : MethodName × Nat) : Prop := (q.1.cls ≠ "java/lang/invoke/MethodHandle" ∧ q.1.cls ≠ "java/lang/invoke/VarHandle") ∧ Cond.instantiable q.1.cls q.2 ∈ tables_1 ∧ Cond.privateMethod q.1 ∈ tables_1 ∧ Cond.instanceMethod q.1 ∈ tables_1
theorem lw_p0 : lw_okq (⟨"VectorPens$History", "discardOldest", "()V"⟩, 2) := ⟨⟨by decide +kernel, by decide +kernel⟩, List.mem_of_getElem? (i := 72) (by decide +kernel), List.mem_of_getElem? (i := 180) (by decide +kernel), List.mem_of_getElem? (i := 181) (by decide +kernel)⟩
theorem lw_p1 : lw_okq (⟨"VectorPens$Thinning", "setLevel", "(II)V"⟩, 1) := ⟨⟨by decide +kernel, by decide +kernel⟩, List.mem_of_getElem? (i := 88) (by decide +kernel), List.mem_of_getElem? (i := 434) (by decide +kernel), List.mem_of_getElem? (i := 435) (by decide +kernel)⟩
theorem lw_p2 : lw_okq (⟨"VectorPens$Thinning", "nextWithLevel", "(II)I"⟩, 1) := ⟨⟨by decide +kernel, by decide +kernel⟩, List.mem_of_getElem? (i := 88) (by decide +kernel), List.mem_of_getElem? (i := 444) (by decide +kernel), List.mem_of_getElem? (i := 445) (by decide +kernel)⟩
theorem lw_p3 : lw_okq (⟨"VectorPens$Thinning", "levelOf", "(I)I"⟩, 1) := ⟨⟨by decide +kernel, by decide +kernel⟩, List.mem_of_getElem? (i := 88) (by decide +kernel), List.mem_of_getElem? (i := 448) (by decide +kernel), List.mem_of_getElem? (i := 449) (by decide +kernel)⟩
theorem lw_p4 : lw_okq (⟨"VectorPens$Welding", "takeEnds", "(LVectorPens$Drawing;)V"⟩, 5) := ⟨⟨by decide +kernel, by decide +kernel⟩, List.mem_of_getElem? (i := 98) (by decide +kernel), List.mem_of_getElem? (i := 502) (by decide +kernel), List.mem_of_getElem? (i := 503) (by decide +kernel)⟩
theorem lw_p5 : lw_okq (⟨"VectorPens$Welding", "addEnd", "(III)V"⟩, 5) := ⟨⟨by decide +kernel, by decide +kernel⟩, List.mem_of_getElem? (i := 98) (by decide +kernel), List.mem_of_getElem? (i := 509) (by decide +kernel), List.mem_of_getElem? (i := 510) (by decide +kernel)⟩
theorem lw_p6 : lw_okq (⟨"VectorPens$Welding", "weldNearest", "(I)Z"⟩, 5) := ⟨⟨by decide +kernel, by decide +kernel⟩, List.mem_of_getElem? (i := 98) (by decide +kernel), List.mem_of_getElem? (i := 517) (by decide +kernel), List.mem_of_getElem? (i := 518) (by decide +kernel)⟩
theorem lw_p7 : lw_okq (⟨"VectorPens$Welding", "mayWeld", "(II)Z"⟩, 5) := ⟨⟨by decide +kernel, by decide +kernel⟩, List.mem_of_getElem? (i := 98) (by decide +kernel), List.mem_of_getElem? (i := 522) (by decide +kernel), List.mem_of_getElem? (i := 523) (by decide +kernel)⟩
theorem lw_p8 : lw_okq (⟨"VectorPens$Welding", "putEnd", "(III)V"⟩, 5) := ⟨⟨by decide +kernel, by decide +kernel⟩, List.mem_of_getElem? (i := 98) (by decide +kernel), List.mem_of_getElem? (i := 530) (by decide +kernel), List.mem_of_getElem? (i := 531) (by decide +kernel)⟩
theorem lw_p9 : lw_okq (⟨"VectorPens$Welding", "giveEnds", "(LVectorPens$Drawing;)V"⟩, 5) := ⟨⟨by decide +kernel, by decide +kernel⟩, List.mem_of_getElem? (i := 98) (by decide +kernel), List.mem_of_getElem? (i := 534) (by decide +kernel), List.mem_of_getElem? (i := 535) (by decide +kernel)⟩
theorem lw_p10 : lw_okq (⟨"VectorPens", "openAt", "(LVectorPens$Stroke;I)V"⟩, 10) := ⟨⟨by decide +kernel, by decide +kernel⟩, List.mem_of_getElem? (i := 14) (by decide +kernel), List.mem_of_getElem? (i := 571) (by decide +kernel), List.mem_of_getElem? (i := 572) (by decide +kernel)⟩
theorem lw_p11 : lw_okq (⟨"VectorPens", "cutAt", "(LVectorPens$Stroke;I)V"⟩, 10) := ⟨⟨by decide +kernel, by decide +kernel⟩, List.mem_of_getElem? (i := 14) (by decide +kernel), List.mem_of_getElem? (i := 575) (by decide +kernel), List.mem_of_getElem? (i := 576) (by decide +kernel)⟩
def lw_privs_1 : List (MethodName × Nat) := [(⟨"VectorPens$History", "discardOldest", "()V"⟩, 2), (⟨"VectorPens$Thinning", "setLevel", "(II)V"⟩, 1), (⟨"VectorPens$Thinning", "nextWithLevel", "(II)I"⟩, 1), (⟨"VectorPens$Thinning", "levelOf", "(I)I"⟩, 1), (⟨"VectorPens$Welding", "takeEnds", "(LVectorPens$Drawing;)V"⟩, 5), (⟨"VectorPens$Welding", "addEnd", "(III)V"⟩, 5), (⟨"VectorPens$Welding", "weldNearest", "(I)Z"⟩, 5), (⟨"VectorPens$Welding", "mayWeld", "(II)Z"⟩, 5), (⟨"VectorPens$Welding", "putEnd", "(III)V"⟩, 5), (⟨"VectorPens$Welding", "giveEnds", "(LVectorPens$Drawing;)V"⟩, 5), (⟨"VectorPens", "openAt", "(LVectorPens$Stroke;I)V"⟩, 10), (⟨"VectorPens", "cutAt", "(LVectorPens$Stroke;I)V"⟩, 10)]
theorem lw_r1 : ∀ q ∈ lw_privs_1, lw_okq q := List.forall_mem_cons.mpr ⟨lw_p0, List.forall_mem_cons.mpr ⟨lw_p1, List.forall_mem_cons.mpr ⟨lw_p2, List.forall_mem_cons.mpr ⟨lw_p3, List.forall_mem_cons.mpr ⟨lw_p4, List.forall_mem_cons.mpr ⟨lw_p5, List.forall_mem_cons.mpr ⟨lw_p6, List.forall_mem_cons.mpr ⟨lw_p7, List.forall_mem_cons.mpr ⟨lw_p8, List.forall_mem_cons.mpr ⟨lw_p9, List.forall_mem_cons.mpr ⟨lw_p10, List.forall_mem_cons.mpr ⟨lw_p11, fun _ h => absurd h List.not_mem_nil⟩⟩⟩⟩⟩⟩⟩⟩⟩⟩⟩⟩
def lw_privs : List (MethodName × Nat) := lw_privs_1
def lw_tbl : List Cond := k2_sels lw_privs ++ tables_1
theorem lw_privs_ok : ∀ q ∈ lw_privs, lw_okq q := lw_r1
-- ===== whole numbers: an int or a long is named by a whole number =====
def I (x : Int) : Int32 := Int32.ofInt x
def J (x : Int) : Int64 := Int64.ofInt x
-- ===== classes, fields =====
def F_Drawing : u_T := fun k => match k with
  | 0 => ("VectorPens$Drawing", "list", "[LVectorPens$Stroke;", true)
  | 1 => ("VectorPens$Drawing", "pen", "LVectorPens$Stroke;", true)
  | _ => ("VectorPens$Drawing", "count", "I", false)
def t_Drawing : Nat → FieldType := fun k => match k with
  | 0 => .array (.object "VectorPens$Stroke")
  | 1 => .object "VectorPens$Stroke"
  | _ => .int
theorem n_Drawing : ∀ a, a < 3 → ∀ b, b < 3 → a ≠ b → (F_Drawing a).2.1 ≠ (F_Drawing b).2.1 := by decide +kernel
theorem t_Drawing_ok : ∀ k, k < 3 → parseFieldDescriptor (F_Drawing k).2.2.1 = some (t_Drawing k) := by decide +kernel
def F_History : u_T := fun k => match k with
  | 0 => ("VectorPens$History", "saved", "[LVectorPens$Drawing;", true)
  | _ => ("VectorPens$History", "count", "I", false)
def t_History : Nat → FieldType := fun k => match k with
  | 0 => .array (.object "VectorPens$Drawing")
  | _ => .int
theorem n_History : ∀ a, a < 2 → ∀ b, b < 2 → a ≠ b → (F_History a).2.1 ≠ (F_History b).2.1 := by decide +kernel
theorem t_History_ok : ∀ k, k < 2 → parseFieldDescriptor (F_History k).2.2.1 = some (t_History k) := by decide +kernel
def F_Stroke : u_T := fun k => match k with
  | 0 => ("VectorPens$Stroke", "points", "[I", true)
  | 1 => ("VectorPens$Stroke", "count", "I", false)
  | _ => ("VectorPens$Stroke", "closed", "Z", false)
def t_Stroke : Nat → FieldType := fun k => match k with
  | 0 => .array .int
  | 1 => .int
  | _ => .boolean
theorem n_Stroke : ∀ a, a < 3 → ∀ b, b < 3 → a ≠ b → (F_Stroke a).2.1 ≠ (F_Stroke b).2.1 := by decide +kernel
theorem t_Stroke_ok : ∀ k, k < 3 → parseFieldDescriptor (F_Stroke k).2.2.1 = some (t_Stroke k) := by decide +kernel
def F_Text : u_T := fun k => match k with
  | 0 => ("VectorPens$Text", "signs", "[C", true)
  | 1 => ("VectorPens$Text", "reading", "LVectorPens$Stroke;", true)
  | _ => ("VectorPens$Text", "length", "I", false)
def t_Text : Nat → FieldType := fun k => match k with
  | 0 => .array .char
  | 1 => .object "VectorPens$Stroke"
  | _ => .int
theorem n_Text : ∀ a, a < 3 → ∀ b, b < 3 → a ≠ b → (F_Text a).2.1 ≠ (F_Text b).2.1 := by decide +kernel
theorem t_Text_ok : ∀ k, k < 3 → parseFieldDescriptor (F_Text k).2.2.1 = some (t_Text k) := by decide +kernel
def F_Thinning : u_T := fun k => match k with
  | _ => ("VectorPens$Thinning", "levels", "[I", true)
def t_Thinning : Nat → FieldType := fun k => match k with
  | _ => .array .int
theorem n_Thinning : ∀ a, a < 1 → ∀ b, b < 1 → a ≠ b → (F_Thinning a).2.1 ≠ (F_Thinning b).2.1 := by decide +kernel
theorem t_Thinning_ok : ∀ k, k < 1 → parseFieldDescriptor (F_Thinning k).2.2.1 = some (t_Thinning k) := by decide +kernel
def F_Welding : u_T := fun k => match k with
  | 0 => ("VectorPens$Welding", "xs", "[I", true)
  | 1 => ("VectorPens$Welding", "ys", "[I", true)
  | 2 => ("VectorPens$Welding", "besides", "[I", true)
  | 3 => ("VectorPens$Welding", "sizes", "[I", true)
  | _ => ("VectorPens$Welding", "count", "I", false)
def t_Welding : Nat → FieldType := fun k => match k with
  | 0 => .array .int
  | 1 => .array .int
  | 2 => .array .int
  | 3 => .array .int
  | _ => .int
theorem n_Welding : ∀ a, a < 5 → ∀ b, b < 5 → a ≠ b → (F_Welding a).2.1 ≠ (F_Welding b).2.1 := by decide +kernel
theorem t_Welding_ok : ∀ k, k < 5 → parseFieldDescriptor (F_Welding k).2.2.1 = some (t_Welding k) := by decide +kernel
def F_Pens : u_T := fun k => match k with
  | 0 => ("VectorPens", "now", "LVectorPens$Drawing;", true)
  | 1 => ("VectorPens", "trial", "LVectorPens$Drawing;", true)
  | 2 => ("VectorPens", "spare", "LVectorPens$Stroke;", true)
  | 3 => ("VectorPens", "history", "LVectorPens$History;", true)
  | 4 => ("VectorPens", "thinning", "LVectorPens$Thinning;", true)
  | 5 => ("VectorPens", "welding", "LVectorPens$Welding;", true)
  | 6 => ("VectorPens", "text", "LVectorPens$Text;", true)
  | 7 => ("VectorPens", "failure", "I", false)
  | 8 => ("VectorPens", "failedStroke", "I", false)
  | _ => ("VectorPens", "failedPoint", "I", false)
def t_Pens : Nat → FieldType := fun k => match k with
  | 0 => .object "VectorPens$Drawing"
  | 1 => .object "VectorPens$Drawing"
  | 2 => .object "VectorPens$Stroke"
  | 3 => .object "VectorPens$History"
  | 4 => .object "VectorPens$Thinning"
  | 5 => .object "VectorPens$Welding"
  | 6 => .object "VectorPens$Text"
  | 7 => .int
  | 8 => .int
  | _ => .int
theorem n_Pens : ∀ a, a < 10 → ∀ b, b < 10 → a ≠ b → (F_Pens a).2.1 ≠ (F_Pens b).2.1 := by decide +kernel
theorem t_Pens_ok : ∀ k, k < 10 → parseFieldDescriptor (F_Pens k).2.2.1 = some (t_Pens k) := by decide +kernel
abbrev g_cls : List vw_C := [("VectorPens$Drawing", F_Drawing, 3), ("VectorPens$History", F_History, 2), ("VectorPens$Stroke", F_Stroke, 3), ("VectorPens$Text", F_Text, 3), ("VectorPens$Thinning", F_Thinning, 1), ("VectorPens$Welding", F_Welding, 5), ("VectorPens", F_Pens, 10)]
/-- the default fields of a new object -/
def g_dflt (ci : Nat) : List Value := match ci with
  | 0 => [.null, .null, .int (I 0)]
  | 1 => [.null, .int (I 0)]
  | 2 => [.null, .int (I 0), .int (I 0)]
  | 3 => [.null, .null, .int (I 0)]
  | 4 => [.null]
  | 5 => [.null, .null, .null, .null, .int (I 0)]
  | _ => [.null, .null, .null, .null, .null, .null, .null, .int (I 0), .int (I 0), .int (I 0)]
def g_fty (ci : Nat) : Nat → FieldType := match ci with
  | 0 => t_Drawing
  | 1 => t_History
  | 2 => t_Stroke
  | 3 => t_Text
  | 4 => t_Thinning
  | 5 => t_Welding
  | _ => t_Pens
/-- the places of a class's lays words -/
def g_lay (ci k : Nat) : Nat := match ci with
  | 0 => [1062, 1064, 1066].getD k 0
  | 1 => [1082, 1084].getD k 0
  | 2 => [1047, 1049, 1051].getD k 0
  | 3 => [1129, 1131, 1133].getD k 0
  | 4 => [1094].getD k 0
  | 5 => [1108, 1110, 1112, 1114, 1116].getD k 0
  | _ => [1147, 1149, 1151, 1153, 1155, 1157, 1159, 1161, 1163, 1165].getD k 0
def g_ini (ci : Nat) : Nat := match ci with
  | 0 => 1002
  | 1 => 1004
  | 2 => 1003
  | 3 => 1007
  | 4 => 1005
  | 5 => 1006
  | _ => 1001
def g_ins (ci : Nat) : Nat := match ci with
  | 0 => 1022
  | 1 => 1072
  | 2 => 1029
  | 3 => 1120
  | 4 => 1088
  | 5 => 1098
  | _ => 1014
/-- the tables' word at a place: 1000 * (the list) + (the place in it) -/
def g_w (n : Nat) : Option Cond := match n / 1000 with
  | 0 => (k2_sels lw_privs)[n % 1000]?
  | 1 => tables_1_1[n % 1000]?
  | 2 => tables_1_2[n % 1000]?
  | 3 => tables_1_3[n % 1000]?
  | _ => none
theorem g_w_mem {n : Nat} {w : Cond} (h : g_w n = some w) : w ∈ lw_tbl := by
  unfold g_w at h
  have ht : ∀ w, w ∈ tables_1 → w ∈ lw_tbl := fun w hw => List.mem_append_right _ hw
  split at h
  · exact List.mem_append_left _ (List.mem_of_getElem? h)
  · exact ht _ (List.mem_append_left _ (List.mem_of_getElem? h))
  · exact ht _ (List.mem_append_right _ (List.mem_append_left _ (List.mem_of_getElem? h)))
  · exact ht _ (List.mem_append_right _ (List.mem_append_right _ (List.mem_of_getElem? h)))
  · cases h
-- ===== methods: name, code, greatest number of locals, what it returns; places of its words: code, static or instance, selects, initialized =====
abbrev g_M : Type := MethodName × ByteArray × Nat × Option FieldType × Nat × Nat × Nat × Nat × Nat
abbrev Drawing_init : Nat := 0
def m_Drawing_init : g_M := (⟨"VectorPens$Drawing", "<init>", "()V"⟩, prog_2_method_1_code, 2, none, 1025, 1024, 0, 1002, 0)
abbrev Drawing_find : Nat := 1
def m_Drawing_find : g_M := (⟨"VectorPens$Drawing", "find", "(I)LVectorPens$Stroke;"⟩, prog_2_method_2_code, 2, (some (.object "VectorPens$Stroke")), 1190, 1188, 1189, 1002, 1)
abbrev Drawing_append : Nat := 2
def m_Drawing_append : g_M := (⟨"VectorPens$Drawing", "append", "(LVectorPens$Stroke;)V"⟩, prog_2_method_3_code, 3, none, 1194, 1192, 1193, 1002, 1)
abbrev Drawing_bringLast : Nat := 3
def m_Drawing_bringLast : g_M := (⟨"VectorPens$Drawing", "bringLast", "(I)V"⟩, prog_2_method_4_code, 4, none, 2046, 2044, 2045, 1002, 1)
abbrev Drawing_drop : Nat := 4
def m_Drawing_drop : g_M := (⟨"VectorPens$Drawing", "drop", "(I)V"⟩, prog_2_method_5_code, 2, none, 2042, 2040, 2041, 1002, 1)
abbrev Drawing_copyFrom : Nat := 5
def m_Drawing_copyFrom : g_M := (⟨"VectorPens$Drawing", "copyFrom", "(LVectorPens$Drawing;)V"⟩, prog_2_method_6_code, 4, none, 1186, 1184, 1185, 1002, 1)
abbrev History_init : Nat := 6
def m_History_init : g_M := (⟨"VectorPens$History", "<init>", "()V"⟩, prog_3_method_1_code, 2, none, 1075, 1074, 0, 1004, 0)
abbrev History_save : Nat := 7
def m_History_save : g_M := (⟨"VectorPens$History", "save", "(LVectorPens$Drawing;)V"⟩, prog_3_method_2_code, 3, none, 1178, 1176, 1177, 1004, 1)
abbrev History_discardOldest : Nat := 8
def m_History_discardOldest : g_M := (⟨"VectorPens$History", "discardOldest", "()V"⟩, prog_3_method_3_code, 3, none, 1182, 1181, 0, 1004, 0)
abbrev Joining_joinEnds : Nat := 9
def m_Joining_joinEnds : g_M := (⟨"VectorPens$Joining", "joinEnds", "(LVectorPens$Drawing;)V"⟩, prog_4_method_2_code, 2, none, 2001, 2000, 0, 1012, 1)
abbrev Joining_joinFirst : Nat := 10
def m_Joining_joinFirst : g_M := (⟨"VectorPens$Joining", "joinFirst", "(LVectorPens$Drawing;)Z"⟩, prog_4_method_3_code, 4, (some .boolean), 2004, 2003, 0, 1012, 1)
abbrev Joining_closeUp : Nat := 11
def m_Joining_closeUp : g_M := (⟨"VectorPens$Joining", "closeUp", "(LVectorPens$Drawing;I)Z"⟩, prog_4_method_4_code, 3, (some .boolean), 2019, 2018, 0, 1012, 2)
abbrev Joining_joinTwo : Nat := 12
def m_Joining_joinTwo : g_M := (⟨"VectorPens$Joining", "joinTwo", "(LVectorPens$Drawing;II)Z"⟩, prog_4_method_5_code, 6, (some .boolean), 2032, 2031, 0, 1012, 3)
abbrev Joining_isOpenEnd : Nat := 13
def m_Joining_isOpenEnd : g_M := (⟨"VectorPens$Joining", "isOpenEnd", "(LVectorPens$Drawing;I)Z"⟩, prog_4_method_6_code, 3, (some .boolean), 2007, 2006, 0, 1012, 2)
abbrev Joining_endOf : Nat := 14
def m_Joining_endOf : g_M := (⟨"VectorPens$Joining", "endOf", "(LVectorPens$Drawing;I)I"⟩, prog_4_method_7_code, 3, (some .int), 2011, 2010, 0, 1012, 2)
abbrev Measures_figure : Nat := 15
def m_Measures_figure : g_M := (⟨"VectorPens$Measures", "figure", "(LVectorPens$Stroke;I)I"⟩, prog_5_method_2_code, 2, (some .int), 2059, 2058, 0, 1009, 2)
abbrev Measures_lengthOf : Nat := 16
def m_Measures_lengthOf : g_M := (⟨"VectorPens$Measures", "lengthOf", "(LVectorPens$Stroke;)I"⟩, prog_5_method_3_code, 3, (some .int), 2062, 2061, 0, 1009, 1)
abbrev Measures_turningSum : Nat := 17
def m_Measures_turningSum : g_M := (⟨"VectorPens$Measures", "turningSum", "(LVectorPens$Stroke;)I"⟩, prog_5_method_4_code, 5, (some .int), 2088, 2087, 0, 1009, 1)
abbrev Measures_bound : Nat := 18
def m_Measures_bound : g_M := (⟨"VectorPens$Measures", "bound", "(LVectorPens$Stroke;ZZ)I"⟩, prog_5_method_5_code, 6, (some .int), 2111, 2110, 0, 1009, 3)
abbrev Measures_crossingsWithItself : Nat := 19
def m_Measures_crossingsWithItself : g_M := (⟨"VectorPens$Measures", "crossingsWithItself", "(LVectorPens$Stroke;)I"⟩, prog_5_method_6_code, 3, (some .int), 2099, 2098, 0, 1009, 1)
abbrev Measures_crossingsOfTwo : Nat := 20
def m_Measures_crossingsOfTwo : g_M := (⟨"VectorPens$Measures", "crossingsOfTwo", "(LVectorPens$Stroke;LVectorPens$Stroke;)I"⟩, prog_5_method_7_code, 4, (some .int), 2168, 2167, 0, 1009, 2)
abbrev Measures_crossingsOfPiece : Nat := 21
def m_Measures_crossingsOfPiece : g_M := (⟨"VectorPens$Measures", "crossingsOfPiece", "(IILVectorPens$Stroke;I)I"⟩, prog_5_method_8_code, 6, (some .int), 2102, 2101, 0, 1009, 4)
abbrev Measures_surrounds : Nat := 22
def m_Measures_surrounds : g_M := (⟨"VectorPens$Measures", "surrounds", "(LVectorPens$Stroke;II)Z"⟩, prog_5_method_9_code, 5, (some .boolean), 2156, 2155, 0, 1009, 3)
abbrev Measures_rayMeets : Nat := 23
def m_Measures_rayMeets : g_M := (⟨"VectorPens$Measures", "rayMeets", "(IIII)Z"⟩, prog_5_method_10_code, 6, (some .boolean), 2159, 2158, 0, 1009, 4)
abbrev Plane_isPlace : Nat := 24
def m_Plane_isPlace : g_M := (⟨"VectorPens$Plane", "isPlace", "(II)Z"⟩, prog_6_method_2_code, 2, (some .boolean), 1174, 1173, 0, 1008, 2)
abbrev Plane_told : Nat := 25
def m_Plane_told : g_M := (⟨"VectorPens$Plane", "told", "(II)I"⟩, prog_6_method_3_code, 2, (some .int), 1209, 1208, 0, 1008, 2)
abbrev Plane_xOf : Nat := 26
def m_Plane_xOf : g_M := (⟨"VectorPens$Plane", "xOf", "(I)I"⟩, prog_6_method_4_code, 1, (some .int), 2078, 2077, 0, 1008, 1)
abbrev Plane_yOf : Nat := 27
def m_Plane_yOf : g_M := (⟨"VectorPens$Plane", "yOf", "(I)I"⟩, prog_6_method_5_code, 1, (some .int), 2081, 2080, 0, 1008, 1)
abbrev Plane_squaredDistance : Nat := 28
def m_Plane_squaredDistance : g_M := (⟨"VectorPens$Plane", "squaredDistance", "(II)I"⟩, prog_6_method_6_code, 4, (some .int), 2075, 2074, 0, 1008, 2)
abbrev Plane_cross : Nat := 29
def m_Plane_cross : g_M := (⟨"VectorPens$Plane", "cross", "(III)I"⟩, prog_6_method_7_code, 5, (some .int), 2108, 2107, 0, 1008, 3)
abbrev Plane_piecesCross : Nat := 30
def m_Plane_piecesCross : g_M := (⟨"VectorPens$Plane", "piecesCross", "(IIII)Z"⟩, prog_6_method_8_code, 4, (some .boolean), 2105, 2104, 0, 1008, 4)
abbrev Plane_root : Nat := 31
def m_Plane_root : g_M := (⟨"VectorPens$Plane", "root", "(J)I"⟩, prog_6_method_9_code, 6, (some .int), 2084, 2083, 0, 1008, 1)
abbrev Stroke_init : Nat := 32
def m_Stroke_init : g_M := (⟨"VectorPens$Stroke", "<init>", "()V"⟩, prog_7_method_1_code, 1, none, 1032, 1031, 0, 1003, 0)
abbrev Stroke_at : Nat := 33
def m_Stroke_at : g_M := (⟨"VectorPens$Stroke", "at", "(I)I"⟩, prog_7_method_2_code, 2, (some .int), 1202, 1200, 1201, 1003, 1)
abbrev Stroke_put : Nat := 34
def m_Stroke_put : g_M := (⟨"VectorPens$Stroke", "put", "(II)V"⟩, prog_7_method_3_code, 3, none, 1206, 1204, 1205, 1003, 2)
abbrev Stroke_add : Nat := 35
def m_Stroke_add : g_M := (⟨"VectorPens$Stroke", "add", "(I)V"⟩, prog_7_method_4_code, 2, none, 1213, 1211, 1212, 1003, 1)
abbrev Stroke_empty : Nat := 36
def m_Stroke_empty : g_M := (⟨"VectorPens$Stroke", "empty", "()V"⟩, prog_7_method_5_code, 1, none, 1230, 1228, 1229, 1003, 0)
abbrev Stroke_shorten : Nat := 37
def m_Stroke_shorten : g_M := (⟨"VectorPens$Stroke", "shorten", "(I)V"⟩, prog_7_method_6_code, 2, none, 2023, 2021, 2022, 1003, 1)
abbrev Stroke_copyFrom : Nat := 38
def m_Stroke_copyFrom : g_M := (⟨"VectorPens$Stroke", "copyFrom", "(LVectorPens$Stroke;)V"⟩, prog_7_method_7_code, 3, none, 1198, 1196, 1197, 1003, 1)
abbrev Stroke_firstPoint : Nat := 39
def m_Stroke_firstPoint : g_M := (⟨"VectorPens$Stroke", "firstPoint", "()I"⟩, prog_7_method_8_code, 1, (some .int), 2015, 2013, 2014, 1003, 0)
abbrev Stroke_lastPoint : Nat := 40
def m_Stroke_lastPoint : g_M := (⟨"VectorPens$Stroke", "lastPoint", "()I"⟩, prog_7_method_9_code, 1, (some .int), 1221, 1219, 1220, 1003, 0)
abbrev Stroke_around : Nat := 41
def m_Stroke_around : g_M := (⟨"VectorPens$Stroke", "around", "(I)I"⟩, prog_7_method_10_code, 2, (some .int), 2072, 2070, 2071, 1003, 1)
abbrev Stroke_pieceCount : Nat := 42
def m_Stroke_pieceCount : g_M := (⟨"VectorPens$Stroke", "pieceCount", "()I"⟩, prog_7_method_11_code, 1, (some .int), 2066, 2064, 2065, 1003, 0)
abbrev Stroke_turnRound : Nat := 43
def m_Stroke_turnRound : g_M := (⟨"VectorPens$Stroke", "turnRound", "()V"⟩, prog_7_method_12_code, 4, none, 2036, 2034, 2035, 1003, 0)
abbrev Stroke_repeatedPoint : Nat := 44
def m_Stroke_repeatedPoint : g_M := (⟨"VectorPens$Stroke", "repeatedPoint", "()I"⟩, prog_7_method_13_code, 2, (some .int), 2237, 2235, 2236, 1003, 0)
abbrev Text_init : Nat := 45
def m_Text_init : g_M := (⟨"VectorPens$Text", "<init>", "()V"⟩, prog_8_method_1_code, 1, none, 1123, 1122, 0, 1007, 0)
abbrev Thinning_init : Nat := 46
def m_Thinning_init : g_M := (⟨"VectorPens$Thinning", "<init>", "()V"⟩, prog_9_method_1_code, 1, none, 1091, 1090, 0, 1005, 0)
abbrev Thinning_measure : Nat := 47
def m_Thinning_measure : g_M := (⟨"VectorPens$Thinning", "measure", "(LVectorPens$Stroke;)V"⟩, prog_9_method_2_code, 8, none, 2191, 2189, 2190, 1005, 1)
abbrev Thinning_thin : Nat := 48
def m_Thinning_thin : g_M := (⟨"VectorPens$Thinning", "thin", "(LVectorPens$Stroke;ILVectorPens$Stroke;)V"⟩, prog_9_method_3_code, 5, none, 2231, 2229, 2230, 1005, 3)
abbrev Thinning_levelOf : Nat := 49
def m_Thinning_levelOf : g_M := (⟨"VectorPens$Thinning", "levelOf", "(I)I"⟩, prog_9_method_4_code, 2, (some .int), 2210, 2209, 3, 1005, 1)
abbrev Thinning_setLevel : Nat := 50
def m_Thinning_setLevel : g_M := (⟨"VectorPens$Thinning", "setLevel", "(II)V"⟩, prog_9_method_5_code, 3, none, 2196, 2195, 1, 1005, 2)
abbrev Thinning_nextWithLevel : Nat := 51
def m_Thinning_nextWithLevel : g_M := (⟨"VectorPens$Thinning", "nextWithLevel", "(II)I"⟩, prog_9_method_6_code, 4, (some .int), 2206, 2205, 2, 1005, 2)
abbrev Thinning_farthestFromFirst : Nat := 52
def m_Thinning_farthestFromFirst : g_M := (⟨"VectorPens$Thinning", "farthestFromFirst", "(LVectorPens$Stroke;)I"⟩, prog_9_method_7_code, 5, (some .int), 2199, 2198, 0, 1005, 1)
abbrev Thinning_farthestBetween : Nat := 53
def m_Thinning_farthestBetween : g_M := (⟨"VectorPens$Thinning", "farthestBetween", "(LVectorPens$Stroke;II)I"⟩, prog_9_method_8_code, 9, (some .int), 2213, 2212, 0, 1005, 3)
abbrev Thinning_squaredOffset : Nat := 54
def m_Thinning_squaredOffset : g_M := (⟨"VectorPens$Thinning", "squaredOffset", "(III)J"⟩, prog_9_method_9_code, 5, (some .long), 2218, 2217, 0, 1005, 3)
abbrev Thinning_scale : Nat := 55
def m_Thinning_scale : g_M := (⟨"VectorPens$Thinning", "scale", "(II)J"⟩, prog_9_method_10_code, 2, (some .long), 2226, 2225, 0, 1005, 2)
abbrev Thinning_ownLevel : Nat := 56
def m_Thinning_ownLevel : g_M := (⟨"VectorPens$Thinning", "ownLevel", "(LVectorPens$Stroke;III)I"⟩, prog_9_method_11_code, 8, (some .int), 2223, 2222, 0, 1005, 4)
abbrev Welding_init : Nat := 57
def m_Welding_init : g_M := (⟨"VectorPens$Welding", "<init>", "()V"⟩, prog_10_method_1_code, 1, none, 1101, 1100, 0, 1006, 0)
abbrev Welding_weldEnds : Nat := 58
def m_Welding_weldEnds : g_M := (⟨"VectorPens$Welding", "weldEnds", "(LVectorPens$Drawing;I)I"⟩, prog_10_method_2_code, 4, (some .int), 3020, 3018, 3019, 1006, 2)
abbrev Welding_takeEnds : Nat := 59
def m_Welding_takeEnds : g_M := (⟨"VectorPens$Welding", "takeEnds", "(LVectorPens$Drawing;)V"⟩, prog_10_method_3_code, 4, none, 3024, 3023, 4, 1006, 1)
abbrev Welding_addEnd : Nat := 60
def m_Welding_addEnd : g_M := (⟨"VectorPens$Welding", "addEnd", "(III)V"⟩, prog_10_method_4_code, 4, none, 3031, 3030, 5, 1006, 3)
abbrev Welding_giveEnds : Nat := 61
def m_Welding_giveEnds : g_M := (⟨"VectorPens$Welding", "giveEnds", "(LVectorPens$Drawing;)V"⟩, prog_10_method_5_code, 5, none, 3056, 3055, 9, 1006, 1)
abbrev Welding_weldNearest : Nat := 62
def m_Welding_weldNearest : g_M := (⟨"VectorPens$Welding", "weldNearest", "(I)Z"⟩, prog_10_method_6_code, 11, (some .boolean), 3039, 3038, 6, 1006, 1)
abbrev Welding_middle : Nat := 63
def m_Welding_middle : g_M := (⟨"VectorPens$Welding", "middle", "(II)I"⟩, prog_10_method_7_code, 2, (some .int), 3047, 3046, 0, 1006, 2)
abbrev Welding_mayWeld : Nat := 64
def m_Welding_mayWeld : g_M := (⟨"VectorPens$Welding", "mayWeld", "(II)Z"⟩, prog_10_method_8_code, 4, (some .boolean), 3044, 3043, 7, 1006, 2)
abbrev Welding_putEnd : Nat := 65
def m_Welding_putEnd : g_M := (⟨"VectorPens$Welding", "putEnd", "(III)V"⟩, prog_10_method_9_code, 5, none, 3052, 3051, 8, 1006, 3)
abbrev Pens_init : Nat := 66
def m_Pens_init : g_M := (⟨"VectorPens", "<init>", "()V"⟩, prog_1_method_1_code, 1, none, 1017, 1016, 0, 1001, 0)
abbrev Pens_down : Nat := 67
def m_Pens_down : g_M := (⟨"VectorPens", "down", "(II)I"⟩, prog_1_method_2_code, 3, (some .int), 1171, 1169, 1170, 1001, 2)
abbrev Pens_draw : Nat := 68
def m_Pens_draw : g_M := (⟨"VectorPens", "draw", "(II)I"⟩, prog_1_method_3_code, 3, (some .int), 1217, 1215, 1216, 1001, 2)
abbrev Pens_lift : Nat := 69
def m_Pens_lift : g_M := (⟨"VectorPens", "lift", "()I"⟩, prog_1_method_4_code, 3, (some .int), 1225, 1223, 1224, 1001, 0)
abbrev Pens_line : Nat := 70
def m_Pens_line : g_M := (⟨"VectorPens", "line", "()I"⟩, prog_1_method_5_code, 1, (some .int), 1234, 1232, 1233, 1001, 0)
abbrev Pens_simplify : Nat := 71
def m_Pens_simplify : g_M := (⟨"VectorPens", "simplify", "(II)I"⟩, prog_1_method_6_code, 4, (some .int), 3008, 3006, 3007, 1001, 2)
abbrev Pens_weld : Nat := 72
def m_Pens_weld : g_M := (⟨"VectorPens", "weld", "(I)I"⟩, prog_1_method_7_code, 2, (some .int), 3016, 3014, 3015, 1001, 1)
abbrev Pens_joinAll : Nat := 73
def m_Pens_joinAll : g_M := (⟨"VectorPens", "joinAll", "()I"⟩, prog_1_method_8_code, 1, (some .int), 1238, 1236, 1237, 1001, 0)
abbrev Pens_move : Nat := 74
def m_Pens_move : g_M := (⟨"VectorPens", "move", "(III)I"⟩, prog_1_method_9_code, 8, (some .int), 3064, 3062, 3063, 1001, 3)
abbrev Pens_turn : Nat := 75
def m_Pens_turn : g_M := (⟨"VectorPens", "turn", "(II)I"⟩, prog_1_method_10_code, 11, (some .int), 3076, 3074, 3075, 1001, 2)
abbrev Pens_reverse : Nat := 76
def m_Pens_reverse : g_M := (⟨"VectorPens", "reverse", "(I)I"⟩, prog_1_method_11_code, 3, (some .int), 3080, 3078, 3079, 1001, 1)
abbrev Pens_close : Nat := 77
def m_Pens_close : g_M := (⟨"VectorPens", "close", "(I)I"⟩, prog_1_method_12_code, 3, (some .int), 3085, 3083, 3084, 1001, 1)
abbrev Pens_split : Nat := 78
def m_Pens_split : g_M := (⟨"VectorPens", "split", "(II)I"⟩, prog_1_method_13_code, 4, (some .int), 3089, 3087, 3088, 1001, 2)
abbrev Pens_openAt : Nat := 79
def m_Pens_openAt : g_M := (⟨"VectorPens", "openAt", "(LVectorPens$Stroke;I)V"⟩, prog_1_method_14_code, 4, none, 3093, 3092, 10, 1001, 2)
abbrev Pens_cutAt : Nat := 80
def m_Pens_cutAt : g_M := (⟨"VectorPens", "cutAt", "(LVectorPens$Stroke;I)V"⟩, prog_1_method_15_code, 4, none, 3097, 3096, 11, 1001, 2)
abbrev Pens_remove : Nat := 81
def m_Pens_remove : g_M := (⟨"VectorPens", "remove", "(I)I"⟩, prog_1_method_16_code, 2, (some .int), 3107, 3105, 3106, 1001, 1)
abbrev Pens_toTop : Nat := 82
def m_Pens_toTop : g_M := (⟨"VectorPens", "toTop", "(I)I"⟩, prog_1_method_17_code, 2, (some .int), 3102, 3100, 3101, 1001, 1)
abbrev Pens_strokes : Nat := 83
def m_Pens_strokes : g_M := (⟨"VectorPens", "strokes", "()I"⟩, prog_1_method_18_code, 1, (some .int), 2051, 2049, 2050, 1001, 0)
abbrev Pens_of : Nat := 84
def m_Pens_of : g_M := (⟨"VectorPens", "of", "(II)I"⟩, prog_1_method_19_code, 4, (some .int), 2055, 2053, 2054, 1001, 2)
abbrev Pens_point : Nat := 85
def m_Pens_point : g_M := (⟨"VectorPens", "point", "(II)I"⟩, prog_1_method_20_code, 4, (some .int), 2118, 2116, 2117, 1001, 2)
abbrev Pens_crossings : Nat := 86
def m_Pens_crossings : g_M := (⟨"VectorPens", "crossings", "(II)I"⟩, prog_1_method_21_code, 5, (some .int), 2165, 2163, 2164, 1001, 2)
abbrev Pens_nearest : Nat := 87
def m_Pens_nearest : g_M := (⟨"VectorPens", "nearest", "(II)I"⟩, prog_1_method_22_code, 10, (some .int), 2172, 2170, 2171, 1001, 2)
abbrev Pens_isInside : Nat := 88
def m_Pens_isInside : g_M := (⟨"VectorPens", "isInside", "(III)I"⟩, prog_1_method_23_code, 5, (some .int), 2153, 2151, 2152, 1001, 3)
abbrev Pens_ifSimplified : Nat := 89
def m_Pens_ifSimplified : g_M := (⟨"VectorPens", "ifSimplified", "(II)I"⟩, prog_1_method_24_code, 4, (some .int), 3004, 3002, 3003, 1001, 2)
abbrev Pens_toleranceFor : Nat := 90
def m_Pens_toleranceFor : g_M := (⟨"VectorPens", "toleranceFor", "(II)I"⟩, prog_1_method_25_code, 5, (some .int), 2187, 2185, 2186, 1001, 2)
abbrev Integer_compare : Nat := 91
def m_Integer_compare : g_M := (⟨"java/lang/Integer", "compare", "(II)I"⟩, prog_13_method_40_code, 2, (some .int), 2096, 2095, 0, 1011, 2)
abbrev Math_abs : Nat := 92
def m_Math_abs : g_M := (⟨"java/lang/Math", "abs", "(I)I"⟩, prog_14_method_59_code, 1, (some .int), 2093, 2092, 0, 1010, 1)
abbrev Math_labs : Nat := 93
def m_Math_labs : g_M := (⟨"java/lang/Math", "abs", "(J)J"⟩, prog_14_method_61_code, 2, (some .long), 3067, 3066, 0, 1010, 1)
abbrev Math_max : Nat := 94
def m_Math_max : g_M := (⟨"java/lang/Math", "max", "(II)I"⟩, prog_14_method_65_code, 2, (some .int), 2026, 2025, 0, 1010, 2)
abbrev Math_min : Nat := 95
def m_Math_min : g_M := (⟨"java/lang/Math", "min", "(II)I"⟩, prog_14_method_69_code, 2, (some .int), 2029, 2028, 0, 1010, 2)
abbrev Law_cell : Nat := 96
def m_Law_cell : g_M := (⟨"VectorPensLaw", "cell", "([II)I"⟩, method_2_code, 2, (some .int), 2122, 2121, 0, 1000, 2)
abbrev Law_low : Nat := 97
def m_Law_low : g_M := (⟨"VectorPensLaw", "low", "(II)I"⟩, method_3_code, 2, (some .int), 2127, 2126, 0, 1000, 2)
abbrev Law_take : Nat := 98
def m_Law_take : g_M := (⟨"VectorPensLaw", "take", "(LVectorPens;I[I)I"⟩, method_4_code, 5, (some .int), 2134, 2133, 0, 1000, 3)
abbrev Law_far : Nat := 99
def m_Law_far : g_M := (⟨"VectorPensLaw", "far", "(II)I"⟩, method_5_code, 4, (some .int), 2137, 2136, 0, 1000, 2)
abbrev Law_area : Nat := 100
def m_Law_area : g_M := (⟨"VectorPensLaw", "area", "(III)I"⟩, method_6_code, 3, (some .int), 2143, 2142, 0, 1000, 3)
abbrev Law_apart : Nat := 101
def m_Law_apart : g_M := (⟨"VectorPensLaw", "apart", "(IIII)Z"⟩, method_7_code, 6, (some .boolean), 2149, 2148, 0, 1000, 4)
abbrev Law_cross : Nat := 102
def m_Law_cross : g_M := (⟨"VectorPensLaw", "cross", "(IIII)Z"⟩, method_8_code, 4, (some .boolean), 2146, 2145, 0, 1000, 4)
abbrev Law_root : Nat := 103
def m_Law_root : g_M := (⟨"VectorPensLaw", "root", "(I)I"⟩, method_9_code, 4, (some .int), 2140, 2139, 0, 1000, 1)
abbrev Law_same : Nat := 104
def m_Law_same : g_M := (⟨"VectorPensLaw", "same", "(LVectorPens;I)Z"⟩, method_10_code, 28, (some .boolean), 2131, 2130, 0, 1000, 2)
abbrev Law_simple : Nat := 105
def m_Law_simple : g_M := (⟨"VectorPensLaw", "simple", "([IIZI)I"⟩, method_11_code, 17, (some .int), 2179, 2178, 0, 1000, 4)
abbrev Law_count : Nat := 106
def m_Law_count : g_M := (⟨"VectorPensLaw", "count", "(I)I"⟩, method_12_code, 3, (some .int), 2183, 2182, 0, 1000, 1)
abbrev Law_simplified : Nat := 107
def m_Law_simplified : g_M := (⟨"VectorPensLaw", "simplified", "(LVectorPens;I)Z"⟩, method_13_code, 14, (some .boolean), 2176, 2175, 0, 1000, 2)
abbrev Law_welded : Nat := 108
def m_Law_welded : g_M := (⟨"VectorPensLaw", "welded", "(LVectorPens;I)Z"⟩, method_14_code, 12, (some .boolean), 3012, 3011, 0, 1000, 2)
abbrev Law_changed : Nat := 109
def m_Law_changed : g_M := (⟨"VectorPensLaw", "changed", "(LVectorPens;II)Z"⟩, method_15_code, 18, (some .boolean), 3060, 3059, 0, 1000, 3)
abbrev Law_law : Nat := 110
def m_Law_law : g_M := (⟨"VectorPensLaw", "law", "([I)Z"⟩, code, 13, (some .boolean), 0, 0, 0, 1000, 1)
abbrev g_E : Type := Nat × Nat × Nat × Nat × Nat × Int × Instr
def g_m (k : Nat) : g_M := match k with
  | 0 => m_Drawing_init
  | 1 => m_Drawing_find
  | 2 => m_Drawing_append
  | 3 => m_Drawing_bringLast
  | 4 => m_Drawing_drop
  | 5 => m_Drawing_copyFrom
  | 6 => m_History_init
  | 7 => m_History_save
  | 8 => m_History_discardOldest
  | 9 => m_Joining_joinEnds
  | 10 => m_Joining_joinFirst
  | 11 => m_Joining_closeUp
  | 12 => m_Joining_joinTwo
  | 13 => m_Joining_isOpenEnd
  | 14 => m_Joining_endOf
  | 15 => m_Measures_figure
  | 16 => m_Measures_lengthOf
  | 17 => m_Measures_turningSum
  | 18 => m_Measures_bound
  | 19 => m_Measures_crossingsWithItself
  | 20 => m_Measures_crossingsOfTwo
  | 21 => m_Measures_crossingsOfPiece
  | 22 => m_Measures_surrounds
  | 23 => m_Measures_rayMeets
  | 24 => m_Plane_isPlace
  | 25 => m_Plane_told
  | 26 => m_Plane_xOf
  | 27 => m_Plane_yOf
  | 28 => m_Plane_squaredDistance
  | 29 => m_Plane_cross
  | 30 => m_Plane_piecesCross
  | 31 => m_Plane_root
  | 32 => m_Stroke_init
  | 33 => m_Stroke_at
  | 34 => m_Stroke_put
  | 35 => m_Stroke_add
  | 36 => m_Stroke_empty
  | 37 => m_Stroke_shorten
  | 38 => m_Stroke_copyFrom
  | 39 => m_Stroke_firstPoint
  | 40 => m_Stroke_lastPoint
  | 41 => m_Stroke_around
  | 42 => m_Stroke_pieceCount
  | 43 => m_Stroke_turnRound
  | 44 => m_Stroke_repeatedPoint
  | 45 => m_Text_init
  | 46 => m_Thinning_init
  | 47 => m_Thinning_measure
  | 48 => m_Thinning_thin
  | 49 => m_Thinning_levelOf
  | 50 => m_Thinning_setLevel
  | 51 => m_Thinning_nextWithLevel
  | 52 => m_Thinning_farthestFromFirst
  | 53 => m_Thinning_farthestBetween
  | 54 => m_Thinning_squaredOffset
  | 55 => m_Thinning_scale
  | 56 => m_Thinning_ownLevel
  | 57 => m_Welding_init
  | 58 => m_Welding_weldEnds
  | 59 => m_Welding_takeEnds
  | 60 => m_Welding_addEnd
  | 61 => m_Welding_giveEnds
  | 62 => m_Welding_weldNearest
  | 63 => m_Welding_middle
  | 64 => m_Welding_mayWeld
  | 65 => m_Welding_putEnd
  | 66 => m_Pens_init
  | 67 => m_Pens_down
  | 68 => m_Pens_draw
  | 69 => m_Pens_lift
  | 70 => m_Pens_line
  | 71 => m_Pens_simplify
  | 72 => m_Pens_weld
  | 73 => m_Pens_joinAll
  | 74 => m_Pens_move
  | 75 => m_Pens_turn
  | 76 => m_Pens_reverse
  | 77 => m_Pens_close
  | 78 => m_Pens_split
  | 79 => m_Pens_openAt
  | 80 => m_Pens_cutAt
  | 81 => m_Pens_remove
  | 82 => m_Pens_toTop
  | 83 => m_Pens_strokes
  | 84 => m_Pens_of
  | 85 => m_Pens_point
  | 86 => m_Pens_crossings
  | 87 => m_Pens_nearest
  | 88 => m_Pens_isInside
  | 89 => m_Pens_ifSimplified
  | 90 => m_Pens_toleranceFor
  | 91 => m_Integer_compare
  | 92 => m_Math_abs
  | 93 => m_Math_labs
  | 94 => m_Math_max
  | 95 => m_Math_min
  | 96 => m_Law_cell
  | 97 => m_Law_low
  | 98 => m_Law_take
  | 99 => m_Law_far
  | 100 => m_Law_area
  | 101 => m_Law_apart
  | 102 => m_Law_cross
  | 103 => m_Law_root
  | 104 => m_Law_same
  | 105 => m_Law_simple
  | 106 => m_Law_count
  | 107 => m_Law_simplified
  | 108 => m_Law_welded
  | 109 => m_Law_changed
  | _ => m_Law_law
