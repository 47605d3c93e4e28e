abbrev c_GV_init : ByteArray := prog_1_method_1_code
def y_GV_init : MethodName := ⟨"GroupViews", "<init>", "()V"⟩
abbrev c_PS_init : ByteArray := prog_3_method_1_code
def y_PS_init : MethodName := ⟨"GroupViews$ProcessState", "<init>", "()V"⟩
abbrev c_LN_init : ByteArray := prog_2_method_1_code
def y_LN_init : MethodName := ⟨"GroupViews$Line", "<init>", "()V"⟩
abbrev c_GV_send : ByteArray := prog_1_method_2_code
def y_GV_send : MethodName := ⟨"GroupViews", "send", "(II)I"⟩
abbrev c_GV_isProcess : ByteArray := prog_1_method_29_code
def y_GV_isProcess : MethodName := ⟨"GroupViews", "isProcess", "(I)Z"⟩
abbrev c_GV_slotOf : ByteArray := prog_1_method_35_code
def y_GV_slotOf : MethodName := ⟨"GroupViews", "slotOf", "(II)I"⟩
abbrev c_GV_withCount : ByteArray := prog_1_method_39_code
def y_GV_withCount : MethodName := ⟨"GroupViews", "withCount", "(III)I"⟩
abbrev c_PS_learnMessage : ByteArray := prog_3_method_2_code
def y_PS_learnMessage : MethodName := ⟨"GroupViews$ProcessState", "learnMessage", "(III)V"⟩
abbrev c_GV_presentSet : ByteArray := prog_1_method_27_code
def y_GV_presentSet : MethodName := ⟨"GroupViews", "presentSet", "(I)I"⟩
abbrev c_GV_putToOthers : ByteArray := prog_1_method_20_code
def y_GV_putToOthers : MethodName := ⟨"GroupViews", "putToOthers", "(III)V"⟩
abbrev c_GV_has : ByteArray := prog_1_method_32_code
def y_GV_has : MethodName := ⟨"GroupViews", "has", "(II)Z"⟩
abbrev c_GV_lineIndex : ByteArray := prog_1_method_33_code
def y_GV_lineIndex : MethodName := ⟨"GroupViews", "lineIndex", "(II)I"⟩
abbrev c_LN_put : ByteArray := prog_2_method_2_code
def y_LN_put : MethodName := ⟨"GroupViews$Line", "put", "(I)V"⟩
abbrev c_GV_change : ByteArray := prog_1_method_3_code
def y_GV_change : MethodName := ⟨"GroupViews", "change", "(II)I"⟩
abbrev c_GV_isNonEmptySet : ByteArray := prog_1_method_31_code
def y_GV_isNonEmptySet : MethodName := ⟨"GroupViews", "isNonEmptySet", "(I)Z"⟩
abbrev c_PS_learnSync : ByteArray := prog_3_method_5_code
def y_PS_learnSync : MethodName := ⟨"GroupViews$ProcessState", "learnSync", "(II)V"⟩
abbrev c_GV_form : ByteArray := prog_1_method_4_code
def y_GV_form : MethodName := ⟨"GroupViews", "form", "(I)I"⟩
abbrev c_GV_canForm : ByteArray := prog_1_method_19_code
def y_GV_canForm : MethodName := ⟨"GroupViews", "canForm", "(I)Z"⟩
abbrev c_GV_startIndex : ByteArray := prog_1_method_34_code
def y_GV_startIndex : MethodName := ⟨"GroupViews", "startIndex", "(II)I"⟩
abbrev c_GV_tell : ByteArray := prog_1_method_5_code
def y_GV_tell : MethodName := ⟨"GroupViews", "tell", "(II)I"⟩
abbrev c_GV_isFormed : ByteArray := prog_1_method_28_code
def y_GV_isFormed : MethodName := ⟨"GroupViews", "isFormed", "(I)Z"⟩
abbrev c_GV_carry : ByteArray := prog_1_method_6_code
def y_GV_carry : MethodName := ⟨"GroupViews", "carry", "(II)I"⟩
abbrev c_GV_isLine : ByteArray := prog_1_method_30_code
def y_GV_isLine : MethodName := ⟨"GroupViews", "isLine", "(II)Z"⟩
abbrev c_LN_takeFirst : ByteArray := prog_2_method_3_code
def y_LN_takeFirst : MethodName := ⟨"GroupViews$Line", "takeFirst", "()I"⟩
abbrev c_GV_viewOfSlot : ByteArray := prog_1_method_36_code
def y_GV_viewOfSlot : MethodName := ⟨"GroupViews", "viewOfSlot", "(I)I"⟩
abbrev c_GV_numberOfSlot : ByteArray := prog_1_method_37_code
def y_GV_numberOfSlot : MethodName := ⟨"GroupViews", "numberOfSlot", "(I)I"⟩
abbrev c_GV_receiveSync : ByteArray := prog_1_method_21_code
def y_GV_receiveSync : MethodName := ⟨"GroupViews", "receiveSync", "(LGroupViews$ProcessState;II)V"⟩
abbrev c_GV_countOf : ByteArray := prog_1_method_38_code
def y_GV_countOf : MethodName := ⟨"GroupViews", "countOf", "(II)I"⟩
abbrev c_GV_step : ByteArray := prog_1_method_7_code
def y_GV_step : MethodName := ⟨"GroupViews", "step", "(I)I"⟩
abbrev c_GV_deliverOne : ByteArray := prog_1_method_22_code
def y_GV_deliverOne : MethodName := ⟨"GroupViews", "deliverOne", "(LGroupViews$ProcessState;I)I"⟩
abbrev c_GV_isDeliverable : ByteArray := prog_1_method_23_code
def y_GV_isDeliverable : MethodName := ⟨"GroupViews", "isDeliverable", "(LGroupViews$ProcessState;II)Z"⟩
abbrev c_PS_knowsMessage : ByteArray := prog_3_method_3_code
def y_PS_knowsMessage : MethodName := ⟨"GroupViews$ProcessState", "knowsMessage", "(II)Z"⟩
abbrev c_PS_setEvent : ByteArray := prog_3_method_7_code
def y_PS_setEvent : MethodName := ⟨"GroupViews$ProcessState", "setEvent", "(IIII)V"⟩
abbrev c_GV_isReady : ByteArray := prog_1_method_24_code
def y_GV_isReady : MethodName := ⟨"GroupViews", "isReady", "(LGroupViews$ProcessState;I)Z"⟩
abbrev c_PS_knowsSync : ByteArray := prog_3_method_6_code
def y_PS_knowsSync : MethodName := ⟨"GroupViews$ProcessState", "knowsSync", "(II)Z"⟩
abbrev c_GV_companionsAmong : ByteArray := prog_1_method_25_code
def y_GV_companionsAmong : MethodName := ⟨"GroupViews", "companionsAmong", "(LGroupViews$ProcessState;I)I"⟩
abbrev c_GV_limitsOf : ByteArray := prog_1_method_26_code
def y_GV_limitsOf : MethodName := ⟨"GroupViews", "limitsOf", "(II)I"⟩
abbrev c_GV_greatestOfEach : ByteArray := prog_1_method_40_code
def y_GV_greatestOfEach : MethodName := ⟨"GroupViews", "greatestOfEach", "(II)I"⟩
abbrev c_MA_max : ByteArray := prog_7_method_65_code
def y_MA_max : MethodName := ⟨"java/lang/Math", "max", "(II)I"⟩
abbrev c_PS_enterPending : ByteArray := prog_3_method_8_code
def y_PS_enterPending : MethodName := ⟨"GroupViews$ProcessState", "enterPending", "()V"⟩
abbrev c_GV_event : ByteArray := prog_1_method_8_code
def y_GV_event : MethodName := ⟨"GroupViews", "event", "(II)I"⟩
abbrev c_GV_view : ByteArray := prog_1_method_9_code
def y_GV_view : MethodName := ⟨"GroupViews", "view", "(I)I"⟩
abbrev c_GV_members : ByteArray := prog_1_method_10_code
def y_GV_members : MethodName := ⟨"GroupViews", "members", "(I)I"⟩
abbrev c_GV_start : ByteArray := prog_1_method_11_code
def y_GV_start : MethodName := ⟨"GroupViews", "start", "(II)I"⟩
abbrev c_GV_blocked : ByteArray := prog_1_method_12_code
def y_GV_blocked : MethodName := ⟨"GroupViews", "blocked", "(I)Z"⟩
abbrev c_GV_pending : ByteArray := prog_1_method_13_code
def y_GV_pending : MethodName := ⟨"GroupViews", "pending", "(I)I"⟩
abbrev c_GV_changes : ByteArray := prog_1_method_14_code
def y_GV_changes : MethodName := ⟨"GroupViews", "changes", "(I)I"⟩
abbrev c_GV_sent : ByteArray := prog_1_method_15_code
def y_GV_sent : MethodName := ⟨"GroupViews", "sent", "(I)I"⟩
abbrev c_GV_delivered : ByteArray := prog_1_method_16_code
def y_GV_delivered : MethodName := ⟨"GroupViews", "delivered", "(II)I"⟩
abbrev c_GV_known : ByteArray := prog_1_method_17_code
def y_GV_known : MethodName := ⟨"GroupViews", "known", "(II)I"⟩
abbrev c_PS_messagesKnownOf : ByteArray := prog_3_method_4_code
def y_PS_messagesKnownOf : MethodName := ⟨"GroupViews$ProcessState", "messagesKnownOf", "(I)I"⟩
abbrev c_IN_bitCount : ByteArray := prog_6_method_49_code
def y_IN_bitCount : MethodName := ⟨"java/lang/Integer", "bitCount", "(I)I"⟩
abbrev c_GV_waiting : ByteArray := prog_1_method_18_code
def y_GV_waiting : MethodName := ⟨"GroupViews", "waiting", "(II)I"⟩
abbrev c_LN_length : ByteArray := prog_2_method_4_code
def y_LN_length : MethodName := ⟨"GroupViews$Line", "length", "()I"⟩
abbrev c_MD_init : ByteArray := prog_5_method_1_code
def y_MD_init : MethodName := ⟨"GroupViewsModel", "<init>", "()V"⟩
abbrev c_MD_send : ByteArray := prog_5_method_5_code
def y_MD_send : MethodName := ⟨"GroupViewsModel", "send", "(II)I"⟩
abbrev c_MD_within : ByteArray := prog_5_method_2_code
def y_MD_within : MethodName := ⟨"GroupViewsModel", "within", "(III)Z"⟩
abbrev c_MD_present : ByteArray := prog_5_method_3_code
def y_MD_present : MethodName := ⟨"GroupViewsModel", "present", "(I)I"⟩
abbrev c_MD_put : ByteArray := prog_5_method_4_code
def y_MD_put : MethodName := ⟨"GroupViewsModel", "put", "(III)V"⟩
abbrev c_MD_change : ByteArray := prog_5_method_6_code
def y_MD_change : MethodName := ⟨"GroupViewsModel", "change", "(II)I"⟩
abbrev c_MD_form : ByteArray := prog_5_method_7_code
def y_MD_form : MethodName := ⟨"GroupViewsModel", "form", "(I)I"⟩
abbrev c_MD_tell : ByteArray := prog_5_method_8_code
def y_MD_tell : MethodName := ⟨"GroupViewsModel", "tell", "(II)I"⟩
abbrev c_MD_carry : ByteArray := prog_5_method_9_code
def y_MD_carry : MethodName := ⟨"GroupViewsModel", "carry", "(II)I"⟩
abbrev c_MD_step : ByteArray := prog_5_method_13_code
def y_MD_step : MethodName := ⟨"GroupViewsModel", "step", "(I)I"⟩
abbrev c_MD_limits : ByteArray := prog_5_method_10_code
def y_MD_limits : MethodName := ⟨"GroupViewsModel", "limits", "(I)I"⟩
abbrev c_MD_deliverable : ByteArray := prog_5_method_11_code
def y_MD_deliverable : MethodName := ⟨"GroupViewsModel", "deliverable", "(II)Z"⟩
abbrev c_MD_note : ByteArray := prog_5_method_12_code
def y_MD_note : MethodName := ⟨"GroupViewsModel", "note", "(IIIII)V"⟩
abbrev c_MD_event : ByteArray := prog_5_method_14_code
def y_MD_event : MethodName := ⟨"GroupViewsModel", "event", "(II)I"⟩
abbrev c_MD_view : ByteArray := prog_5_method_15_code
def y_MD_view : MethodName := ⟨"GroupViewsModel", "view", "(I)I"⟩
abbrev c_MD_members : ByteArray := prog_5_method_16_code
def y_MD_members : MethodName := ⟨"GroupViewsModel", "members", "(I)I"⟩
abbrev c_MD_start : ByteArray := prog_5_method_17_code
def y_MD_start : MethodName := ⟨"GroupViewsModel", "start", "(II)I"⟩
abbrev c_MD_blocked : ByteArray := prog_5_method_18_code
def y_MD_blocked : MethodName := ⟨"GroupViewsModel", "blocked", "(I)Z"⟩
abbrev c_MD_pending : ByteArray := prog_5_method_19_code
def y_MD_pending : MethodName := ⟨"GroupViewsModel", "pending", "(I)I"⟩
abbrev c_MD_changes : ByteArray := prog_5_method_20_code
def y_MD_changes : MethodName := ⟨"GroupViewsModel", "changes", "(I)I"⟩
abbrev c_MD_sent : ByteArray := prog_5_method_21_code
def y_MD_sent : MethodName := ⟨"GroupViewsModel", "sent", "(I)I"⟩
abbrev c_MD_delivered : ByteArray := prog_5_method_22_code
def y_MD_delivered : MethodName := ⟨"GroupViewsModel", "delivered", "(II)I"⟩
abbrev c_MD_known : ByteArray := prog_5_method_23_code
def y_MD_known : MethodName := ⟨"GroupViewsModel", "known", "(II)I"⟩
abbrev c_MD_waiting : ByteArray := prog_5_method_24_code
def y_MD_waiting : MethodName := ⟨"GroupViewsModel", "waiting", "(II)I"⟩
def T_LN : u_T := fun k => match k with
  | 0 => ("GroupViews$Line", "packets", "[I", true)
  | 1 => ("GroupViews$Line", "first", "I", false)
  | _ => ("GroupViews$Line", "end", "I", false)
def ty_LN : Nat → FieldType := fun k => match k with
  | 0 => .array .int
  | 1 => .int
  | _ => .int
theorem nm_LN : ∀ a, a < 3 → ∀ b, b < 3 → a ≠ b → (T_LN a).2.1 ≠ (T_LN b).2.1 := by decide +kernel
theorem tyo_LN : ∀ k, k < 3 → parseFieldDescriptor (T_LN k).2.2.1 = some (ty_LN k) := by decide +kernel
def T_PS : u_T := fun k => match k with
  | 0 => ("GroupViews$ProcessState", "view", "I", false)
  | 1 => ("GroupViews$ProcessState", "lastChange", "I", false)
  | 2 => ("GroupViews$ProcessState", "changeSet", "I", false)
  | 3 => ("GroupViews$ProcessState", "open", "Z", false)
  | 4 => ("GroupViews$ProcessState", "blocked", "Z", false)
  | 5 => ("GroupViews$ProcessState", "pending", "I", false)
  | 6 => ("GroupViews$ProcessState", "greatestTold", "I", false)
  | 7 => ("GroupViews$ProcessState", "sent", "I", false)
  | 8 => ("GroupViews$ProcessState", "delivered", "I", false)
  | 9 => ("GroupViews$ProcessState", "knownNumbers", "[I", true)
  | 10 => ("GroupViews$ProcessState", "knownChanges", "[I", true)
  | 11 => ("GroupViews$ProcessState", "payloads", "[I", true)
  | 12 => ("GroupViews$ProcessState", "vectors", "[I", true)
  | 13 => ("GroupViews$ProcessState", "cutViews", "[I", true)
  | 14 => ("GroupViews$ProcessState", "cuts", "[I", true)
  | _ => ("GroupViews$ProcessState", "event", "[I", true)
def ty_PS : Nat → FieldType := fun k => match k with
  | 0 => .int
  | 1 => .int
  | 2 => .int
  | 3 => .boolean
  | 4 => .boolean
  | 5 => .int
  | 6 => .int
  | 7 => .int
  | 8 => .int
  | 9 => .array .int
  | 10 => .array .int
  | 11 => .array .int
  | 12 => .array .int
  | 13 => .array .int
  | 14 => .array .int
  | _ => .array .int
theorem nm_PS : ∀ a, a < 16 → ∀ b, b < 16 → a ≠ b → (T_PS a).2.1 ≠ (T_PS b).2.1 := by decide +kernel
theorem tyo_PS : ∀ k, k < 16 → parseFieldDescriptor (T_PS k).2.2.1 = some (ty_PS k) := by decide +kernel
def T_GV : u_T := fun k => match k with
  | 0 => ("GroupViews", "processes", "[LGroupViews$ProcessState;", true)
  | 1 => ("GroupViews", "lines", "[LGroupViews$Line;", true)
  | 2 => ("GroupViews", "sets", "[I", true)
  | 3 => ("GroupViews", "starts", "[I", true)
  | _ => ("GroupViews", "formed", "I", false)
def ty_GV : Nat → FieldType := fun k => match k with
  | 0 => .array (.object "GroupViews$ProcessState")
  | 1 => .array (.object "GroupViews$Line")
  | 2 => .array .int
  | 3 => .array .int
  | _ => .int
theorem nm_GV : ∀ a, a < 5 → ∀ b, b < 5 → a ≠ b → (T_GV a).2.1 ≠ (T_GV b).2.1 := by decide +kernel
theorem tyo_GV : ∀ k, k < 5 → parseFieldDescriptor (T_GV k).2.2.1 = some (ty_GV k) := by decide +kernel
def T_MD : u_T := fun k => match k with
  | 0 => ("GroupViewsModel", "view", "[I", true)
  | 1 => ("GroupViewsModel", "change", "[I", true)
  | 2 => ("GroupViewsModel", "changeSet", "[I", true)
  | 3 => ("GroupViewsModel", "open", "[Z", true)
  | 4 => ("GroupViewsModel", "blocked", "[Z", true)
  | 5 => ("GroupViewsModel", "pending", "[I", true)
  | 6 => ("GroupViewsModel", "told", "[I", true)
  | 7 => ("GroupViewsModel", "sent", "[I", true)
  | 8 => ("GroupViewsModel", "delivered", "[I", true)
  | 9 => ("GroupViewsModel", "event", "[I", true)
  | 10 => ("GroupViewsModel", "views", "I", false)
  | 11 => ("GroupViewsModel", "members", "[I", true)
  | 12 => ("GroupViewsModel", "starts", "[I", true)
  | 13 => ("GroupViewsModel", "payload", "[I", true)
  | 14 => ("GroupViewsModel", "vector", "[I", true)
  | 15 => ("GroupViewsModel", "knows", "[Z", true)
  | 16 => ("GroupViewsModel", "syncView", "[I", true)
  | 17 => ("GroupViewsModel", "cut", "[I", true)
  | 18 => ("GroupViewsModel", "heard", "[Z", true)
  | 19 => ("GroupViewsModel", "packet", "[I", true)
  | 20 => ("GroupViewsModel", "length", "[I", true)
  | 21 => ("GroupViewsModel", "limit", "[I", true)
  | _ => ("GroupViewsModel", "companions", "I", false)
def ty_MD : Nat → FieldType := fun k => match k with
  | 0 => .array .int
  | 1 => .array .int
  | 2 => .array .int
  | 3 => .array .boolean
  | 4 => .array .boolean
  | 5 => .array .int
  | 6 => .array .int
  | 7 => .array .int
  | 8 => .array .int
  | 9 => .array .int
  | 10 => .int
  | 11 => .array .int
  | 12 => .array .int
  | 13 => .array .int
  | 14 => .array .int
  | 15 => .array .boolean
  | 16 => .array .int
  | 17 => .array .int
  | 18 => .array .boolean
  | 19 => .array .int
  | 20 => .array .int
  | 21 => .array .int
  | _ => .int
theorem nm_MD : ∀ a, a < 23 → ∀ b, b < 23 → a ≠ b → (T_MD a).2.1 ≠ (T_MD b).2.1 := by decide +kernel
theorem tyo_MD : ∀ k, k < 23 → parseFieldDescriptor (T_MD k).2.2.1 = some (ty_MD k) := by decide +kernel
abbrev vcl : List vw_C := [("GroupViews", T_GV, 5), ("GroupViews$ProcessState", T_PS, 16), ("GroupViews$Line", T_LN, 3), ("GroupViewsModel", T_MD, 23)]
/-- the words that a warmed table keeps -/
def tblG : List Cond := lw_tbl.filter goodWord
theorem tblG_good : ∀ w ∈ tblG, (w.onTables && w.keeps) = true ∨ ∃ ty, w = .arrayClass ty := fun w hw => good_of_word (List.mem_filter.mp hw).2
theorem tblG_1 {i : Nat} {w : Cond} (h : tables_1_1[i]? = some w) (hg : goodWord w = true) : w ∈ tblG := List.mem_filter.mpr ⟨List.mem_append_right _ (List.mem_append_left _ (List.mem_of_getElem? h)), hg⟩
theorem tblG_2 {i : Nat} {w : Cond} (h : tables_1_2[i]? = some w) (hg : goodWord w = true) : w ∈ tblG := List.mem_filter.mpr ⟨List.mem_append_right _ (List.mem_append_right _ (List.mem_of_getElem? h)), hg⟩
theorem tbl_1 {i : Nat} {w : Cond} (h : tables_1_1[i]? = some w) : w ∈ lw_tbl := List.mem_append_right _ (List.mem_append_left _ (List.mem_of_getElem? h))
theorem tbl_2 {i : Nat} {w : Cond} (h : tables_1_2[i]? = some w) : w ∈ lw_tbl := List.mem_append_right _ (List.mem_append_right _ (List.mem_of_getElem? h))
theorem tblG_s {i : Nat} {q : MethodName × Nat} (h : lw_privs[i]? = some q) : Cond.selects q.1.cls q.1 q.1 ∈ tblG := List.mem_filter.mpr ⟨List.mem_append_left _ (List.mem_map.mpr ⟨q, List.mem_of_getElem? h, rfl⟩), rfl⟩
theorem tblG_in {w : Cond} (h : w ∈ lw_tbl) (hg : goodWord w = true) : w ∈ tblG := List.mem_filter.mpr ⟨h, hg⟩
/-- the links to private members of a nest mate -/
def tblN : List Cond := [.methodLinkNest "GroupViews" 28 y_PS_init "GroupViews", .fieldLinkNest "GroupViews" 42 "GroupViews$ProcessState" "view" "I" "GroupViews", .fieldLinkNest "GroupViews" 80 "GroupViews$ProcessState" "lastChange" "I" "GroupViews", .fieldLinkNest "GroupViews" 83 "GroupViews$ProcessState" "changeSet" "I" "GroupViews", .fieldLinkNest "GroupViews" 86 "GroupViews$ProcessState" "open" "Z" "GroupViews", .fieldLinkNest "GroupViews" 34 "GroupViews$ProcessState" "blocked" "Z" "GroupViews", .fieldLinkNest "GroupViews" 89 "GroupViews$ProcessState" "pending" "I" "GroupViews", .fieldLinkNest "GroupViews" 114 "GroupViews$ProcessState" "greatestTold" "I" "GroupViews", .fieldLinkNest "GroupViews" 38 "GroupViews$ProcessState" "sent" "I" "GroupViews", .fieldLinkNest "GroupViews" 55 "GroupViews$ProcessState" "delivered" "I" "GroupViews", .fieldLinkNest "GroupViews" 49 "GroupViews$ProcessState" "payloads" "[I" "GroupViews", .fieldLinkNest "GroupViews" 52 "GroupViews$ProcessState" "vectors" "[I" "GroupViews", .fieldLinkNest "GroupViews" 92 "GroupViews$ProcessState" "cutViews" "[I" "GroupViews", .fieldLinkNest "GroupViews" 95 "GroupViews$ProcessState" "cuts" "[I" "GroupViews", .fieldLinkNest "GroupViews" 159 "GroupViews$ProcessState" "event" "[I" "GroupViews", .methodLinkNest "GroupViews" 29 y_LN_init "GroupViews", .methodLinkNest "GroupViews" 62 y_PS_learnMessage "GroupViews", .methodLinkNest "GroupViews" 171 y_LN_put "GroupViews", .methodLinkNest "GroupViews" 98 y_PS_learnSync "GroupViews", .methodLinkNest "GroupViews" 123 y_LN_takeFirst "GroupViews", .methodLinkNest "GroupViews" 179 y_PS_knowsMessage "GroupViews", .methodLinkNest "GroupViews" 152 y_PS_setEvent "GroupViews", .methodLinkNest "GroupViews" 182 y_PS_knowsSync "GroupViews", .methodLinkNest "GroupViews" 156 y_PS_enterPending "GroupViews", .methodLinkNest "GroupViews" 165 y_PS_messagesKnownOf "GroupViews", .methodLinkNest "GroupViews" 168 y_LN_length "GroupViews"]
theorem nw_20 : Cond.methodLinkNest "GroupViews" 28 y_PS_init "GroupViews" ∈ tblN := List.mem_of_getElem? (i := 0) rfl
theorem nw_24 : Cond.fieldLinkNest "GroupViews" 42 "GroupViews$ProcessState" "view" "I" "GroupViews" ∈ tblN := List.mem_of_getElem? (i := 1) rfl
theorem nw_26 : Cond.fieldLinkNest "GroupViews" 80 "GroupViews$ProcessState" "lastChange" "I" "GroupViews" ∈ tblN := List.mem_of_getElem? (i := 2) rfl
theorem nw_27 : Cond.fieldLinkNest "GroupViews" 83 "GroupViews$ProcessState" "changeSet" "I" "GroupViews" ∈ tblN := List.mem_of_getElem? (i := 3) rfl
theorem nw_28 : Cond.fieldLinkNest "GroupViews" 86 "GroupViews$ProcessState" "open" "Z" "GroupViews" ∈ tblN := List.mem_of_getElem? (i := 4) rfl
theorem nw_29 : Cond.fieldLinkNest "GroupViews" 34 "GroupViews$ProcessState" "blocked" "Z" "GroupViews" ∈ tblN := List.mem_of_getElem? (i := 5) rfl
theorem nw_31 : Cond.fieldLinkNest "GroupViews" 89 "GroupViews$ProcessState" "pending" "I" "GroupViews" ∈ tblN := List.mem_of_getElem? (i := 6) rfl
theorem nw_33 : Cond.fieldLinkNest "GroupViews" 114 "GroupViews$ProcessState" "greatestTold" "I" "GroupViews" ∈ tblN := List.mem_of_getElem? (i := 7) rfl
theorem nw_34 : Cond.fieldLinkNest "GroupViews" 38 "GroupViews$ProcessState" "sent" "I" "GroupViews" ∈ tblN := List.mem_of_getElem? (i := 8) rfl
theorem nw_36 : Cond.fieldLinkNest "GroupViews" 55 "GroupViews$ProcessState" "delivered" "I" "GroupViews" ∈ tblN := List.mem_of_getElem? (i := 9) rfl
theorem nw_41 : Cond.fieldLinkNest "GroupViews" 49 "GroupViews$ProcessState" "payloads" "[I" "GroupViews" ∈ tblN := List.mem_of_getElem? (i := 10) rfl
theorem nw_43 : Cond.fieldLinkNest "GroupViews" 52 "GroupViews$ProcessState" "vectors" "[I" "GroupViews" ∈ tblN := List.mem_of_getElem? (i := 11) rfl
theorem nw_45 : Cond.fieldLinkNest "GroupViews" 92 "GroupViews$ProcessState" "cutViews" "[I" "GroupViews" ∈ tblN := List.mem_of_getElem? (i := 12) rfl
theorem nw_47 : Cond.fieldLinkNest "GroupViews" 95 "GroupViews$ProcessState" "cuts" "[I" "GroupViews" ∈ tblN := List.mem_of_getElem? (i := 13) rfl
theorem nw_49 : Cond.fieldLinkNest "GroupViews" 159 "GroupViews$ProcessState" "event" "[I" "GroupViews" ∈ tblN := List.mem_of_getElem? (i := 14) rfl
theorem nw_85 : Cond.methodLinkNest "GroupViews" 29 y_LN_init "GroupViews" ∈ tblN := List.mem_of_getElem? (i := 15) rfl
theorem nw_128 : Cond.methodLinkNest "GroupViews" 62 y_PS_learnMessage "GroupViews" ∈ tblN := List.mem_of_getElem? (i := 16) rfl
theorem nw_146 : Cond.methodLinkNest "GroupViews" 171 y_LN_put "GroupViews" ∈ tblN := List.mem_of_getElem? (i := 17) rfl
theorem nw_157 : Cond.methodLinkNest "GroupViews" 98 y_PS_learnSync "GroupViews" ∈ tblN := List.mem_of_getElem? (i := 18) rfl
theorem nw_187 : Cond.methodLinkNest "GroupViews" 123 y_LN_takeFirst "GroupViews" ∈ tblN := List.mem_of_getElem? (i := 19) rfl
theorem nw_217 : Cond.methodLinkNest "GroupViews" 179 y_PS_knowsMessage "GroupViews" ∈ tblN := List.mem_of_getElem? (i := 20) rfl
theorem nw_221 : Cond.methodLinkNest "GroupViews" 152 y_PS_setEvent "GroupViews" ∈ tblN := List.mem_of_getElem? (i := 21) rfl
theorem nw_229 : Cond.methodLinkNest "GroupViews" 182 y_PS_knowsSync "GroupViews" ∈ tblN := List.mem_of_getElem? (i := 22) rfl
theorem nw_247 : Cond.methodLinkNest "GroupViews" 156 y_PS_enterPending "GroupViews" ∈ tblN := List.mem_of_getElem? (i := 23) rfl
theorem nw_291 : Cond.methodLinkNest "GroupViews" 165 y_PS_messagesKnownOf "GroupViews" ∈ tblN := List.mem_of_getElem? (i := 24) rfl
theorem nw_305 : Cond.methodLinkNest "GroupViews" 168 y_LN_length "GroupViews" ∈ tblN := List.mem_of_getElem? (i := 25) rfl
theorem tblN_in : ∀ w ∈ tblN, w ∈ lw_tbl := by
  intro w hw
  simp only [tblN, List.mem_cons, List.not_mem_nil, or_false] at hw
  rcases hw with rfl | rfl | rfl | rfl | rfl | rfl | rfl | rfl | rfl | rfl | rfl | rfl | rfl | rfl | rfl | rfl | rfl | rfl | rfl | rfl | rfl | rfl | rfl | rfl | rfl | rfl
  · exact tbl_1 (i := 20) rfl
  · exact tbl_1 (i := 24) rfl
  · exact tbl_1 (i := 26) rfl
  · exact tbl_1 (i := 27) rfl
  · exact tbl_1 (i := 28) rfl
  · exact tbl_1 (i := 29) rfl
  · exact tbl_1 (i := 31) rfl
  · exact tbl_1 (i := 33) rfl
  · exact tbl_1 (i := 34) rfl
  · exact tbl_1 (i := 36) rfl
  · exact tbl_1 (i := 41) rfl
  · exact tbl_1 (i := 43) rfl
  · exact tbl_1 (i := 45) rfl
  · exact tbl_1 (i := 47) rfl
  · exact tbl_1 (i := 49) rfl
  · exact tbl_1 (i := 85) rfl
  · exact tbl_1 (i := 128) rfl
  · exact tbl_1 (i := 146) rfl
  · exact tbl_1 (i := 157) rfl
  · exact tbl_1 (i := 187) rfl
  · exact tbl_1 (i := 217) rfl
  · exact tbl_1 (i := 221) rfl
  · exact tbl_1 (i := 229) rfl
  · exact tbl_2 (i := 7) rfl
  · exact tbl_2 (i := 51) rfl
  · exact tbl_2 (i := 65) rfl
set_option maxRecDepth 20000 in
theorem t_0 : Cond.initialized "GroupViewsLaw" ∈ tblG := tblG_1 (i := 0) rfl rfl
set_option maxRecDepth 20000 in
theorem t_1 : Cond.initialized "GroupViews" ∈ tblG := tblG_1 (i := 1) rfl rfl
set_option maxRecDepth 20000 in
theorem t_2 : Cond.initialized "GroupViews$ProcessState" ∈ tblG := tblG_1 (i := 2) rfl rfl
set_option maxRecDepth 20000 in
theorem t_3 : Cond.initialized "GroupViews$Line" ∈ tblG := tblG_1 (i := 3) rfl rfl
set_option maxRecDepth 20000 in
theorem t_4 : Cond.initialized "GroupViewsModel" ∈ tblG := tblG_1 (i := 4) rfl rfl
set_option maxRecDepth 20000 in
theorem t_5 : Cond.initialized "java/lang/Math" ∈ tblG := tblG_1 (i := 5) rfl rfl
set_option maxRecDepth 20000 in
theorem t_6 : Cond.initialized "java/lang/Integer" ∈ tblG := tblG_1 (i := 6) rfl rfl
set_option maxRecDepth 20000 in
theorem t_7 : Cond.classLink "GroupViewsLaw" 7 "GroupViews" ∈ tblG := tblG_1 (i := 7) rfl rfl
set_option maxRecDepth 20000 in
theorem t_8 : Cond.instantiable "GroupViews" 5 ∈ tblG := tblG_1 (i := 8) rfl rfl
set_option maxRecDepth 20000 in
theorem t_9 : Cond.methodLink "GroupViewsLaw" 9 y_GV_init ∈ tblG := tblG_1 (i := 9) rfl rfl
set_option maxRecDepth 20000 in
theorem t_10 : Cond.instanceMethod y_GV_init ∈ tblG := tblG_1 (i := 10) rfl rfl
set_option maxRecDepth 20000 in
theorem t_11 : Cond.code y_GV_init c_GV_init 2 none ∈ tblG := tblG_1 (i := 11) rfl rfl
set_option maxRecDepth 20000 in
theorem t_12 : Cond.methodLink "GroupViews" 3 objectInit ∈ tblG := tblG_1 (i := 12) rfl rfl
set_option maxRecDepth 20000 in
theorem t_13 : Cond.instanceMethod objectInit ∈ tblG := tblG_1 (i := 13) rfl rfl
set_option maxRecDepth 20000 in
theorem t_14 : Cond.code objectInit ⟨#[0xb1]⟩ 1 none ∈ tblG := tblG_1 (i := 14) rfl rfl
set_option maxRecDepth 20000 in
theorem t_15 : Cond.classLink "GroupViews" 9 "GroupViews$ProcessState" ∈ tblG := tblG_1 (i := 15) rfl rfl
theorem tx_16 : Cond.arrayOver (.object "GroupViews$ProcessState") ∈ lw_tbl := tbl_1 (i := 16) rfl
set_option maxRecDepth 20000 in
theorem t_17 : Cond.classLink "GroupViews" 15 "GroupViews$Line" ∈ tblG := tblG_1 (i := 17) rfl rfl
theorem tx_18 : Cond.arrayOver (.object "GroupViews$Line") ∈ lw_tbl := tbl_1 (i := 18) rfl
set_option maxRecDepth 20000 in
theorem t_19 : Cond.instantiable "GroupViews$ProcessState" 16 ∈ tblG := tblG_1 (i := 19) rfl rfl
set_option maxRecDepth 20000 in
theorem t_21 : Cond.instanceMethod y_PS_init ∈ tblG := tblG_1 (i := 21) rfl rfl
set_option maxRecDepth 20000 in
theorem t_22 : Cond.code y_PS_init c_PS_init 1 none ∈ tblG := tblG_1 (i := 22) rfl rfl
set_option maxRecDepth 20000 in
theorem t_23 : Cond.methodLink "GroupViews$ProcessState" 3 objectInit ∈ tblG := tblG_1 (i := 23) rfl rfl
set_option maxRecDepth 20000 in
theorem t_25 : Cond.fieldLink "GroupViews$ProcessState" 33 "GroupViews$ProcessState" "view" "I" ∈ tblG := tblG_1 (i := 25) rfl rfl
set_option maxRecDepth 20000 in
theorem t_30 : Cond.fieldLink "GroupViews$ProcessState" 46 "GroupViews$ProcessState" "blocked" "Z" ∈ tblG := tblG_1 (i := 30) rfl rfl
set_option maxRecDepth 20000 in
theorem t_32 : Cond.fieldLink "GroupViews$ProcessState" 43 "GroupViews$ProcessState" "pending" "I" ∈ tblG := tblG_1 (i := 32) rfl rfl
set_option maxRecDepth 20000 in
theorem t_35 : Cond.fieldLink "GroupViews$ProcessState" 50 "GroupViews$ProcessState" "sent" "I" ∈ tblG := tblG_1 (i := 35) rfl rfl
set_option maxRecDepth 20000 in
theorem t_37 : Cond.fieldLink "GroupViews$ProcessState" 53 "GroupViews$ProcessState" "delivered" "I" ∈ tblG := tblG_1 (i := 37) rfl rfl
set_option maxRecDepth 20000 in
theorem t_38 : Cond.fieldLink "GroupViews$ProcessState" 9 "GroupViews$ProcessState" "knownNumbers" "[I" ∈ tblG := tblG_1 (i := 38) rfl rfl
set_option maxRecDepth 20000 in
theorem t_39 : Cond.fieldLink "GroupViews$ProcessState" 15 "GroupViews$ProcessState" "knownChanges" "[I" ∈ tblG := tblG_1 (i := 39) rfl rfl
set_option maxRecDepth 20000 in
theorem t_40 : Cond.fieldLink "GroupViews$ProcessState" 18 "GroupViews$ProcessState" "payloads" "[I" ∈ tblG := tblG_1 (i := 40) rfl rfl
set_option maxRecDepth 20000 in
theorem t_42 : Cond.fieldLink "GroupViews$ProcessState" 21 "GroupViews$ProcessState" "vectors" "[I" ∈ tblG := tblG_1 (i := 42) rfl rfl
set_option maxRecDepth 20000 in
theorem t_44 : Cond.fieldLink "GroupViews$ProcessState" 24 "GroupViews$ProcessState" "cutViews" "[I" ∈ tblG := tblG_1 (i := 44) rfl rfl
set_option maxRecDepth 20000 in
theorem t_46 : Cond.fieldLink "GroupViews$ProcessState" 27 "GroupViews$ProcessState" "cuts" "[I" ∈ tblG := tblG_1 (i := 46) rfl rfl
set_option maxRecDepth 20000 in
theorem t_48 : Cond.fieldLink "GroupViews$ProcessState" 30 "GroupViews$ProcessState" "event" "[I" ∈ tblG := tblG_1 (i := 48) rfl rfl
set_option maxRecDepth 20000 in
theorem t_83 : Cond.arrayClass .int ∈ tblG := tblG_1 (i := 83) rfl rfl
set_option maxRecDepth 20000 in
theorem t_84 : Cond.instantiable "GroupViews$Line" 3 ∈ tblG := tblG_1 (i := 84) rfl rfl
set_option maxRecDepth 20000 in
theorem t_86 : Cond.instanceMethod y_LN_init ∈ tblG := tblG_1 (i := 86) rfl rfl
set_option maxRecDepth 20000 in
theorem t_87 : Cond.code y_LN_init c_LN_init 1 none ∈ tblG := tblG_1 (i := 87) rfl rfl
set_option maxRecDepth 20000 in
theorem t_88 : Cond.methodLink "GroupViews$Line" 3 objectInit ∈ tblG := tblG_1 (i := 88) rfl rfl
set_option maxRecDepth 20000 in
theorem t_89 : Cond.fieldLink "GroupViews$Line" 9 "GroupViews$Line" "packets" "[I" ∈ tblG := tblG_1 (i := 89) rfl rfl
set_option maxRecDepth 20000 in
theorem t_90 : Cond.fieldLink "GroupViews$Line" 19 "GroupViews$Line" "first" "I" ∈ tblG := tblG_1 (i := 90) rfl rfl
set_option maxRecDepth 20000 in
theorem t_91 : Cond.fieldLink "GroupViews$Line" 15 "GroupViews$Line" "end" "I" ∈ tblG := tblG_1 (i := 91) rfl rfl
set_option maxRecDepth 20000 in
theorem t_99 : Cond.fieldLink "GroupViews" 11 "GroupViews" "processes" "[LGroupViews$ProcessState;" ∈ tblG := tblG_1 (i := 99) rfl rfl
set_option maxRecDepth 20000 in
theorem t_100 : Cond.fieldLink "GroupViews" 17 "GroupViews" "lines" "[LGroupViews$Line;" ∈ tblG := tblG_1 (i := 100) rfl rfl
set_option maxRecDepth 20000 in
theorem t_101 : Cond.fieldLink "GroupViews" 21 "GroupViews" "sets" "[I" ∈ tblG := tblG_1 (i := 101) rfl rfl
set_option maxRecDepth 20000 in
theorem t_102 : Cond.fieldLink "GroupViews" 25 "GroupViews" "starts" "[I" ∈ tblG := tblG_1 (i := 102) rfl rfl
set_option maxRecDepth 20000 in
theorem t_103 : Cond.fieldLink "GroupViews" 102 "GroupViews" "formed" "I" ∈ tblG := tblG_1 (i := 103) rfl rfl
set_option maxRecDepth 20000 in
theorem t_115 : Cond.methodLink "GroupViewsLaw" 13 y_GV_send ∈ tblG := tblG_1 (i := 115) rfl rfl
set_option maxRecDepth 20000 in
theorem t_116 : Cond.instanceMethod y_GV_send ∈ tblG := tblG_1 (i := 116) rfl rfl
set_option maxRecDepth 20000 in
theorem t_117 : Cond.selects "GroupViews" y_GV_send y_GV_send ∈ tblG := tblG_1 (i := 117) rfl rfl
set_option maxRecDepth 20000 in
theorem t_118 : Cond.code y_GV_send c_GV_send 5 (some .int) ∈ tblG := tblG_1 (i := 118) rfl rfl
set_option maxRecDepth 20000 in
theorem t_119 : Cond.methodLink "GroupViews" 30 y_GV_isProcess ∈ tblG := tblG_1 (i := 119) rfl rfl
set_option maxRecDepth 20000 in
theorem t_120 : Cond.static y_GV_isProcess ∈ tblG := tblG_1 (i := 120) rfl rfl
set_option maxRecDepth 20000 in
theorem t_121 : Cond.code y_GV_isProcess c_GV_isProcess 1 (some .boolean) ∈ tblG := tblG_1 (i := 121) rfl rfl
set_option maxRecDepth 20000 in
theorem t_122 : Cond.methodLink "GroupViews" 45 y_GV_slotOf ∈ tblG := tblG_1 (i := 122) rfl rfl
set_option maxRecDepth 20000 in
theorem t_123 : Cond.static y_GV_slotOf ∈ tblG := tblG_1 (i := 123) rfl rfl
set_option maxRecDepth 20000 in
theorem t_124 : Cond.code y_GV_slotOf c_GV_slotOf 2 (some .int) ∈ tblG := tblG_1 (i := 124) rfl rfl
set_option maxRecDepth 20000 in
theorem t_125 : Cond.methodLink "GroupViews" 58 y_GV_withCount ∈ tblG := tblG_1 (i := 125) rfl rfl
set_option maxRecDepth 20000 in
theorem t_126 : Cond.static y_GV_withCount ∈ tblG := tblG_1 (i := 126) rfl rfl
set_option maxRecDepth 20000 in
theorem t_127 : Cond.code y_GV_withCount c_GV_withCount 4 (some .int) ∈ tblG := tblG_1 (i := 127) rfl rfl
set_option maxRecDepth 20000 in
theorem t_130 : Cond.instanceMethod y_PS_learnMessage ∈ tblG := tblG_1 (i := 130) rfl rfl
set_option maxRecDepth 20000 in
theorem t_131 : Cond.code y_PS_learnMessage c_PS_learnMessage 4 none ∈ tblG := tblG_1 (i := 131) rfl rfl
set_option maxRecDepth 20000 in
theorem t_132 : Cond.methodLink "GroupViews" 66 y_GV_presentSet ∈ tblG := tblG_1 (i := 132) rfl rfl
set_option maxRecDepth 20000 in
theorem t_134 : Cond.instanceMethod y_GV_presentSet ∈ tblG := tblG_1 (i := 134) rfl rfl
set_option maxRecDepth 20000 in
theorem t_135 : Cond.code y_GV_presentSet c_GV_presentSet 3 (some .int) ∈ tblG := tblG_1 (i := 135) rfl rfl
set_option maxRecDepth 20000 in
theorem t_136 : Cond.methodLink "GroupViews" 70 y_GV_putToOthers ∈ tblG := tblG_1 (i := 136) rfl rfl
set_option maxRecDepth 20000 in
theorem t_138 : Cond.instanceMethod y_GV_putToOthers ∈ tblG := tblG_1 (i := 138) rfl rfl
set_option maxRecDepth 20000 in
theorem t_139 : Cond.code y_GV_putToOthers c_GV_putToOthers 5 none ∈ tblG := tblG_1 (i := 139) rfl rfl
set_option maxRecDepth 20000 in
theorem t_140 : Cond.methodLink "GroupViews" 76 y_GV_has ∈ tblG := tblG_1 (i := 140) rfl rfl
set_option maxRecDepth 20000 in
theorem t_141 : Cond.static y_GV_has ∈ tblG := tblG_1 (i := 141) rfl rfl
set_option maxRecDepth 20000 in
theorem t_142 : Cond.code y_GV_has c_GV_has 2 (some .boolean) ∈ tblG := tblG_1 (i := 142) rfl rfl
set_option maxRecDepth 20000 in
theorem t_143 : Cond.methodLink "GroupViews" 120 y_GV_lineIndex ∈ tblG := tblG_1 (i := 143) rfl rfl
set_option maxRecDepth 20000 in
theorem t_144 : Cond.static y_GV_lineIndex ∈ tblG := tblG_1 (i := 144) rfl rfl
set_option maxRecDepth 20000 in
theorem t_145 : Cond.code y_GV_lineIndex c_GV_lineIndex 2 (some .int) ∈ tblG := tblG_1 (i := 145) rfl rfl
set_option maxRecDepth 20000 in
theorem t_148 : Cond.instanceMethod y_LN_put ∈ tblG := tblG_1 (i := 148) rfl rfl
set_option maxRecDepth 20000 in
theorem t_149 : Cond.code y_LN_put c_LN_put 2 none ∈ tblG := tblG_1 (i := 149) rfl rfl
set_option maxRecDepth 20000 in
theorem t_150 : Cond.methodLink "GroupViewsLaw" 18 y_GV_change ∈ tblG := tblG_1 (i := 150) rfl rfl
set_option maxRecDepth 20000 in
theorem t_151 : Cond.instanceMethod y_GV_change ∈ tblG := tblG_1 (i := 151) rfl rfl
set_option maxRecDepth 20000 in
theorem t_152 : Cond.selects "GroupViews" y_GV_change y_GV_change ∈ tblG := tblG_1 (i := 152) rfl rfl
set_option maxRecDepth 20000 in
theorem t_153 : Cond.code y_GV_change c_GV_change 4 (some .int) ∈ tblG := tblG_1 (i := 153) rfl rfl
set_option maxRecDepth 20000 in
theorem t_154 : Cond.methodLink "GroupViews" 73 y_GV_isNonEmptySet ∈ tblG := tblG_1 (i := 154) rfl rfl
set_option maxRecDepth 20000 in
theorem t_155 : Cond.static y_GV_isNonEmptySet ∈ tblG := tblG_1 (i := 155) rfl rfl
set_option maxRecDepth 20000 in
theorem t_156 : Cond.code y_GV_isNonEmptySet c_GV_isNonEmptySet 1 (some .boolean) ∈ tblG := tblG_1 (i := 156) rfl rfl
set_option maxRecDepth 20000 in
theorem t_159 : Cond.instanceMethod y_PS_learnSync ∈ tblG := tblG_1 (i := 159) rfl rfl
set_option maxRecDepth 20000 in
theorem t_160 : Cond.code y_PS_learnSync c_PS_learnSync 3 none ∈ tblG := tblG_1 (i := 160) rfl rfl
set_option maxRecDepth 20000 in
theorem t_161 : Cond.methodLink "GroupViewsLaw" 22 y_GV_form ∈ tblG := tblG_1 (i := 161) rfl rfl
set_option maxRecDepth 20000 in
theorem t_162 : Cond.instanceMethod y_GV_form ∈ tblG := tblG_1 (i := 162) rfl rfl
set_option maxRecDepth 20000 in
theorem t_163 : Cond.selects "GroupViews" y_GV_form y_GV_form ∈ tblG := tblG_1 (i := 163) rfl rfl
set_option maxRecDepth 20000 in
theorem t_164 : Cond.code y_GV_form c_GV_form 3 (some .int) ∈ tblG := tblG_1 (i := 164) rfl rfl
set_option maxRecDepth 20000 in
theorem t_165 : Cond.methodLink "GroupViews" 105 y_GV_canForm ∈ tblG := tblG_1 (i := 165) rfl rfl
set_option maxRecDepth 20000 in
theorem t_167 : Cond.instanceMethod y_GV_canForm ∈ tblG := tblG_1 (i := 167) rfl rfl
set_option maxRecDepth 20000 in
theorem t_168 : Cond.code y_GV_canForm c_GV_canForm 3 (some .boolean) ∈ tblG := tblG_1 (i := 168) rfl rfl
set_option maxRecDepth 20000 in
theorem t_169 : Cond.methodLink "GroupViews" 108 y_GV_startIndex ∈ tblG := tblG_1 (i := 169) rfl rfl
set_option maxRecDepth 20000 in
theorem t_170 : Cond.static y_GV_startIndex ∈ tblG := tblG_1 (i := 170) rfl rfl
set_option maxRecDepth 20000 in
theorem t_171 : Cond.code y_GV_startIndex c_GV_startIndex 2 (some .int) ∈ tblG := tblG_1 (i := 171) rfl rfl
set_option maxRecDepth 20000 in
theorem t_172 : Cond.methodLink "GroupViewsLaw" 27 y_GV_tell ∈ tblG := tblG_1 (i := 172) rfl rfl
set_option maxRecDepth 20000 in
theorem t_173 : Cond.instanceMethod y_GV_tell ∈ tblG := tblG_1 (i := 173) rfl rfl
set_option maxRecDepth 20000 in
theorem t_174 : Cond.selects "GroupViews" y_GV_tell y_GV_tell ∈ tblG := tblG_1 (i := 174) rfl rfl
set_option maxRecDepth 20000 in
theorem t_175 : Cond.code y_GV_tell c_GV_tell 4 (some .int) ∈ tblG := tblG_1 (i := 175) rfl rfl
set_option maxRecDepth 20000 in
theorem t_176 : Cond.methodLink "GroupViews" 111 y_GV_isFormed ∈ tblG := tblG_1 (i := 176) rfl rfl
set_option maxRecDepth 20000 in
theorem t_178 : Cond.instanceMethod y_GV_isFormed ∈ tblG := tblG_1 (i := 178) rfl rfl
set_option maxRecDepth 20000 in
theorem t_179 : Cond.code y_GV_isFormed c_GV_isFormed 2 (some .boolean) ∈ tblG := tblG_1 (i := 179) rfl rfl
set_option maxRecDepth 20000 in
theorem t_180 : Cond.methodLink "GroupViewsLaw" 31 y_GV_carry ∈ tblG := tblG_1 (i := 180) rfl rfl
set_option maxRecDepth 20000 in
theorem t_181 : Cond.instanceMethod y_GV_carry ∈ tblG := tblG_1 (i := 181) rfl rfl
set_option maxRecDepth 20000 in
theorem t_182 : Cond.selects "GroupViews" y_GV_carry y_GV_carry ∈ tblG := tblG_1 (i := 182) rfl rfl
set_option maxRecDepth 20000 in
theorem t_183 : Cond.code y_GV_carry c_GV_carry 4 (some .int) ∈ tblG := tblG_1 (i := 183) rfl rfl
set_option maxRecDepth 20000 in
theorem t_184 : Cond.methodLink "GroupViews" 117 y_GV_isLine ∈ tblG := tblG_1 (i := 184) rfl rfl
set_option maxRecDepth 20000 in
theorem t_185 : Cond.static y_GV_isLine ∈ tblG := tblG_1 (i := 185) rfl rfl
set_option maxRecDepth 20000 in
theorem t_186 : Cond.code y_GV_isLine c_GV_isLine 2 (some .boolean) ∈ tblG := tblG_1 (i := 186) rfl rfl
set_option maxRecDepth 20000 in
theorem t_189 : Cond.instanceMethod y_LN_takeFirst ∈ tblG := tblG_1 (i := 189) rfl rfl
set_option maxRecDepth 20000 in
theorem t_190 : Cond.code y_LN_takeFirst c_LN_takeFirst 2 (some .int) ∈ tblG := tblG_1 (i := 190) rfl rfl
set_option maxRecDepth 20000 in
theorem t_191 : Cond.methodLink "GroupViews" 127 y_GV_viewOfSlot ∈ tblG := tblG_1 (i := 191) rfl rfl
set_option maxRecDepth 20000 in
theorem t_192 : Cond.static y_GV_viewOfSlot ∈ tblG := tblG_1 (i := 192) rfl rfl
set_option maxRecDepth 20000 in
theorem t_193 : Cond.code y_GV_viewOfSlot c_GV_viewOfSlot 1 (some .int) ∈ tblG := tblG_1 (i := 193) rfl rfl
set_option maxRecDepth 20000 in
theorem t_194 : Cond.methodLink "GroupViews" 130 y_GV_numberOfSlot ∈ tblG := tblG_1 (i := 194) rfl rfl
set_option maxRecDepth 20000 in
theorem t_195 : Cond.static y_GV_numberOfSlot ∈ tblG := tblG_1 (i := 195) rfl rfl
set_option maxRecDepth 20000 in
theorem t_196 : Cond.code y_GV_numberOfSlot c_GV_numberOfSlot 1 (some .int) ∈ tblG := tblG_1 (i := 196) rfl rfl
set_option maxRecDepth 20000 in
theorem t_197 : Cond.methodLink "GroupViews" 133 y_GV_receiveSync ∈ tblG := tblG_1 (i := 197) rfl rfl
set_option maxRecDepth 20000 in
theorem t_199 : Cond.instanceMethod y_GV_receiveSync ∈ tblG := tblG_1 (i := 199) rfl rfl
set_option maxRecDepth 20000 in
theorem t_200 : Cond.code y_GV_receiveSync c_GV_receiveSync 8 none ∈ tblG := tblG_1 (i := 200) rfl rfl
set_option maxRecDepth 20000 in
theorem t_201 : Cond.methodLink "GroupViews" 162 y_GV_countOf ∈ tblG := tblG_1 (i := 201) rfl rfl
set_option maxRecDepth 20000 in
theorem t_202 : Cond.static y_GV_countOf ∈ tblG := tblG_1 (i := 202) rfl rfl
set_option maxRecDepth 20000 in
theorem t_203 : Cond.code y_GV_countOf c_GV_countOf 2 (some .int) ∈ tblG := tblG_1 (i := 203) rfl rfl
set_option maxRecDepth 20000 in
theorem t_204 : Cond.methodLink "GroupViewsLaw" 35 y_GV_step ∈ tblG := tblG_1 (i := 204) rfl rfl
set_option maxRecDepth 20000 in
theorem t_205 : Cond.instanceMethod y_GV_step ∈ tblG := tblG_1 (i := 205) rfl rfl
set_option maxRecDepth 20000 in
theorem t_206 : Cond.selects "GroupViews" y_GV_step y_GV_step ∈ tblG := tblG_1 (i := 206) rfl rfl
set_option maxRecDepth 20000 in
theorem t_207 : Cond.code y_GV_step c_GV_step 6 (some .int) ∈ tblG := tblG_1 (i := 207) rfl rfl
set_option maxRecDepth 20000 in
theorem t_208 : Cond.constant "GroupViews" 137 (67372036) ∈ tblG := tblG_1 (i := 208) rfl rfl
set_option maxRecDepth 20000 in
theorem t_209 : Cond.methodLink "GroupViews" 138 y_GV_deliverOne ∈ tblG := tblG_1 (i := 209) rfl rfl
set_option maxRecDepth 20000 in
theorem t_211 : Cond.instanceMethod y_GV_deliverOne ∈ tblG := tblG_1 (i := 211) rfl rfl
set_option maxRecDepth 20000 in
theorem t_212 : Cond.code y_GV_deliverOne c_GV_deliverOne 6 (some .int) ∈ tblG := tblG_1 (i := 212) rfl rfl
set_option maxRecDepth 20000 in
theorem t_213 : Cond.methodLink "GroupViews" 175 y_GV_isDeliverable ∈ tblG := tblG_1 (i := 213) rfl rfl
set_option maxRecDepth 20000 in
theorem t_215 : Cond.instanceMethod y_GV_isDeliverable ∈ tblG := tblG_1 (i := 215) rfl rfl
set_option maxRecDepth 20000 in
theorem t_216 : Cond.code y_GV_isDeliverable c_GV_isDeliverable 7 (some .boolean) ∈ tblG := tblG_1 (i := 216) rfl rfl
set_option maxRecDepth 20000 in
theorem t_219 : Cond.instanceMethod y_PS_knowsMessage ∈ tblG := tblG_1 (i := 219) rfl rfl
set_option maxRecDepth 20000 in
theorem t_220 : Cond.code y_PS_knowsMessage c_PS_knowsMessage 3 (some .boolean) ∈ tblG := tblG_1 (i := 220) rfl rfl
set_option maxRecDepth 20000 in
theorem t_223 : Cond.instanceMethod y_PS_setEvent ∈ tblG := tblG_1 (i := 223) rfl rfl
set_option maxRecDepth 20000 in
theorem t_224 : Cond.code y_PS_setEvent c_PS_setEvent 5 none ∈ tblG := tblG_1 (i := 224) rfl rfl
set_option maxRecDepth 20000 in
theorem t_225 : Cond.methodLink "GroupViews" 142 y_GV_isReady ∈ tblG := tblG_1 (i := 225) rfl rfl
set_option maxRecDepth 20000 in
theorem t_227 : Cond.instanceMethod y_GV_isReady ∈ tblG := tblG_1 (i := 227) rfl rfl
set_option maxRecDepth 20000 in
theorem t_228 : Cond.code y_GV_isReady c_GV_isReady 4 (some .boolean) ∈ tblG := tblG_1 (i := 228) rfl rfl
set_option maxRecDepth 20000 in
theorem t_231 : Cond.instanceMethod y_PS_knowsSync ∈ tblG := tblG_1 (i := 231) rfl rfl
set_option maxRecDepth 20000 in
theorem t_232 : Cond.code y_PS_knowsSync c_PS_knowsSync 3 (some .boolean) ∈ tblG := tblG_1 (i := 232) rfl rfl
set_option maxRecDepth 20000 in
theorem t_233 : Cond.methodLink "GroupViews" 146 y_GV_companionsAmong ∈ tblG := tblG_1 (i := 233) rfl rfl
set_option maxRecDepth 20000 in
theorem t_235 : Cond.instanceMethod y_GV_companionsAmong ∈ tblG := tblG_1 (i := 235) rfl rfl
set_option maxRecDepth 20000 in
theorem t_236 : Cond.code y_GV_companionsAmong c_GV_companionsAmong 6 (some .int) ∈ tblG := tblG_1 (i := 236) rfl rfl
set_option maxRecDepth 20000 in
theorem t_237 : Cond.methodLink "GroupViews" 149 y_GV_limitsOf ∈ tblG := tblG_1 (i := 237) rfl rfl
set_option maxRecDepth 20000 in
theorem t_239 : Cond.instanceMethod y_GV_limitsOf ∈ tblG := tblG_1 (i := 239) rfl rfl
set_option maxRecDepth 20000 in
theorem t_240 : Cond.code y_GV_limitsOf c_GV_limitsOf 5 (some .int) ∈ tblG := tblG_2 (i := 0) rfl rfl
set_option maxRecDepth 20000 in
theorem t_241 : Cond.methodLink "GroupViews" 185 y_GV_greatestOfEach ∈ tblG := tblG_2 (i := 1) rfl rfl
set_option maxRecDepth 20000 in
theorem t_242 : Cond.static y_GV_greatestOfEach ∈ tblG := tblG_2 (i := 2) rfl rfl
set_option maxRecDepth 20000 in
theorem t_243 : Cond.code y_GV_greatestOfEach c_GV_greatestOfEach 4 (some .int) ∈ tblG := tblG_2 (i := 3) rfl rfl
set_option maxRecDepth 20000 in
theorem t_244 : Cond.methodLink "GroupViews" 188 y_MA_max ∈ tblG := tblG_2 (i := 4) rfl rfl
set_option maxRecDepth 20000 in
theorem t_245 : Cond.static y_MA_max ∈ tblG := tblG_2 (i := 5) rfl rfl
set_option maxRecDepth 20000 in
theorem t_246 : Cond.code y_MA_max c_MA_max 2 (some .int) ∈ tblG := tblG_2 (i := 6) rfl rfl
set_option maxRecDepth 20000 in
theorem t_249 : Cond.instanceMethod y_PS_enterPending ∈ tblG := tblG_2 (i := 9) rfl rfl
set_option maxRecDepth 20000 in
theorem t_250 : Cond.code y_PS_enterPending c_PS_enterPending 1 none ∈ tblG := tblG_2 (i := 10) rfl rfl
set_option maxRecDepth 20000 in
theorem t_251 : Cond.methodLink "GroupViewsLaw" 39 y_GV_event ∈ tblG := tblG_2 (i := 11) rfl rfl
set_option maxRecDepth 20000 in
theorem t_252 : Cond.instanceMethod y_GV_event ∈ tblG := tblG_2 (i := 12) rfl rfl
set_option maxRecDepth 20000 in
theorem t_253 : Cond.selects "GroupViews" y_GV_event y_GV_event ∈ tblG := tblG_2 (i := 13) rfl rfl
set_option maxRecDepth 20000 in
theorem t_254 : Cond.code y_GV_event c_GV_event 3 (some .int) ∈ tblG := tblG_2 (i := 14) rfl rfl
set_option maxRecDepth 20000 in
theorem t_255 : Cond.methodLink "GroupViewsLaw" 43 y_GV_view ∈ tblG := tblG_2 (i := 15) rfl rfl
set_option maxRecDepth 20000 in
theorem t_256 : Cond.instanceMethod y_GV_view ∈ tblG := tblG_2 (i := 16) rfl rfl
set_option maxRecDepth 20000 in
theorem t_257 : Cond.selects "GroupViews" y_GV_view y_GV_view ∈ tblG := tblG_2 (i := 17) rfl rfl
set_option maxRecDepth 20000 in
theorem t_258 : Cond.code y_GV_view c_GV_view 2 (some .int) ∈ tblG := tblG_2 (i := 18) rfl rfl
set_option maxRecDepth 20000 in
theorem t_259 : Cond.methodLink "GroupViewsLaw" 47 y_GV_members ∈ tblG := tblG_2 (i := 19) rfl rfl
set_option maxRecDepth 20000 in
theorem t_260 : Cond.instanceMethod y_GV_members ∈ tblG := tblG_2 (i := 20) rfl rfl
set_option maxRecDepth 20000 in
theorem t_261 : Cond.selects "GroupViews" y_GV_members y_GV_members ∈ tblG := tblG_2 (i := 21) rfl rfl
set_option maxRecDepth 20000 in
theorem t_262 : Cond.code y_GV_members c_GV_members 2 (some .int) ∈ tblG := tblG_2 (i := 22) rfl rfl
set_option maxRecDepth 20000 in
theorem t_263 : Cond.methodLink "GroupViewsLaw" 51 y_GV_start ∈ tblG := tblG_2 (i := 23) rfl rfl
set_option maxRecDepth 20000 in
theorem t_264 : Cond.instanceMethod y_GV_start ∈ tblG := tblG_2 (i := 24) rfl rfl
set_option maxRecDepth 20000 in
theorem t_265 : Cond.selects "GroupViews" y_GV_start y_GV_start ∈ tblG := tblG_2 (i := 25) rfl rfl
set_option maxRecDepth 20000 in
theorem t_266 : Cond.code y_GV_start c_GV_start 3 (some .int) ∈ tblG := tblG_2 (i := 26) rfl rfl
set_option maxRecDepth 20000 in
theorem t_267 : Cond.methodLink "GroupViewsLaw" 55 y_GV_blocked ∈ tblG := tblG_2 (i := 27) rfl rfl
set_option maxRecDepth 20000 in
theorem t_268 : Cond.instanceMethod y_GV_blocked ∈ tblG := tblG_2 (i := 28) rfl rfl
set_option maxRecDepth 20000 in
theorem t_269 : Cond.selects "GroupViews" y_GV_blocked y_GV_blocked ∈ tblG := tblG_2 (i := 29) rfl rfl
set_option maxRecDepth 20000 in
theorem t_270 : Cond.code y_GV_blocked c_GV_blocked 2 (some .boolean) ∈ tblG := tblG_2 (i := 30) rfl rfl
set_option maxRecDepth 20000 in
theorem t_271 : Cond.methodLink "GroupViewsLaw" 60 y_GV_pending ∈ tblG := tblG_2 (i := 31) rfl rfl
set_option maxRecDepth 20000 in
theorem t_272 : Cond.instanceMethod y_GV_pending ∈ tblG := tblG_2 (i := 32) rfl rfl
set_option maxRecDepth 20000 in
theorem t_273 : Cond.selects "GroupViews" y_GV_pending y_GV_pending ∈ tblG := tblG_2 (i := 33) rfl rfl
set_option maxRecDepth 20000 in
theorem t_274 : Cond.code y_GV_pending c_GV_pending 2 (some .int) ∈ tblG := tblG_2 (i := 34) rfl rfl
set_option maxRecDepth 20000 in
theorem t_275 : Cond.methodLink "GroupViewsLaw" 64 y_GV_changes ∈ tblG := tblG_2 (i := 35) rfl rfl
set_option maxRecDepth 20000 in
theorem t_276 : Cond.instanceMethod y_GV_changes ∈ tblG := tblG_2 (i := 36) rfl rfl
set_option maxRecDepth 20000 in
theorem t_277 : Cond.selects "GroupViews" y_GV_changes y_GV_changes ∈ tblG := tblG_2 (i := 37) rfl rfl
set_option maxRecDepth 20000 in
theorem t_278 : Cond.code y_GV_changes c_GV_changes 2 (some .int) ∈ tblG := tblG_2 (i := 38) rfl rfl
set_option maxRecDepth 20000 in
theorem t_279 : Cond.methodLink "GroupViewsLaw" 68 y_GV_sent ∈ tblG := tblG_2 (i := 39) rfl rfl
set_option maxRecDepth 20000 in
theorem t_280 : Cond.instanceMethod y_GV_sent ∈ tblG := tblG_2 (i := 40) rfl rfl
set_option maxRecDepth 20000 in
theorem t_281 : Cond.selects "GroupViews" y_GV_sent y_GV_sent ∈ tblG := tblG_2 (i := 41) rfl rfl
set_option maxRecDepth 20000 in
theorem t_282 : Cond.code y_GV_sent c_GV_sent 2 (some .int) ∈ tblG := tblG_2 (i := 42) rfl rfl
set_option maxRecDepth 20000 in
theorem t_283 : Cond.methodLink "GroupViewsLaw" 72 y_GV_delivered ∈ tblG := tblG_2 (i := 43) rfl rfl
set_option maxRecDepth 20000 in
theorem t_284 : Cond.instanceMethod y_GV_delivered ∈ tblG := tblG_2 (i := 44) rfl rfl
set_option maxRecDepth 20000 in
theorem t_285 : Cond.selects "GroupViews" y_GV_delivered y_GV_delivered ∈ tblG := tblG_2 (i := 45) rfl rfl
set_option maxRecDepth 20000 in
theorem t_286 : Cond.code y_GV_delivered c_GV_delivered 3 (some .int) ∈ tblG := tblG_2 (i := 46) rfl rfl
set_option maxRecDepth 20000 in
theorem t_287 : Cond.methodLink "GroupViewsLaw" 76 y_GV_known ∈ tblG := tblG_2 (i := 47) rfl rfl
set_option maxRecDepth 20000 in
theorem t_288 : Cond.instanceMethod y_GV_known ∈ tblG := tblG_2 (i := 48) rfl rfl
set_option maxRecDepth 20000 in
theorem t_289 : Cond.selects "GroupViews" y_GV_known y_GV_known ∈ tblG := tblG_2 (i := 49) rfl rfl
set_option maxRecDepth 20000 in
theorem t_290 : Cond.code y_GV_known c_GV_known 3 (some .int) ∈ tblG := tblG_2 (i := 50) rfl rfl
set_option maxRecDepth 20000 in
theorem t_293 : Cond.instanceMethod y_PS_messagesKnownOf ∈ tblG := tblG_2 (i := 53) rfl rfl
set_option maxRecDepth 20000 in
theorem t_294 : Cond.code y_PS_messagesKnownOf c_PS_messagesKnownOf 2 (some .int) ∈ tblG := tblG_2 (i := 54) rfl rfl
set_option maxRecDepth 20000 in
theorem t_295 : Cond.methodLink "GroupViews$ProcessState" 37 y_IN_bitCount ∈ tblG := tblG_2 (i := 55) rfl rfl
set_option maxRecDepth 20000 in
theorem t_296 : Cond.static y_IN_bitCount ∈ tblG := tblG_2 (i := 56) rfl rfl
set_option maxRecDepth 20000 in
theorem t_297 : Cond.code y_IN_bitCount c_IN_bitCount 1 (some .int) ∈ tblG := tblG_2 (i := 57) rfl rfl
set_option maxRecDepth 20000 in
theorem t_298 : Cond.constant "java/lang/Integer" 265 (1431655765) ∈ tblG := tblG_2 (i := 58) rfl rfl
set_option maxRecDepth 20000 in
theorem t_299 : Cond.constant "java/lang/Integer" 266 (858993459) ∈ tblG := tblG_2 (i := 59) rfl rfl
set_option maxRecDepth 20000 in
theorem t_300 : Cond.constant "java/lang/Integer" 267 (252645135) ∈ tblG := tblG_2 (i := 60) rfl rfl
set_option maxRecDepth 20000 in
theorem t_301 : Cond.methodLink "GroupViewsLaw" 80 y_GV_waiting ∈ tblG := tblG_2 (i := 61) rfl rfl
set_option maxRecDepth 20000 in
theorem t_302 : Cond.instanceMethod y_GV_waiting ∈ tblG := tblG_2 (i := 62) rfl rfl
set_option maxRecDepth 20000 in
theorem t_303 : Cond.selects "GroupViews" y_GV_waiting y_GV_waiting ∈ tblG := tblG_2 (i := 63) rfl rfl
set_option maxRecDepth 20000 in
theorem t_304 : Cond.code y_GV_waiting c_GV_waiting 3 (some .int) ∈ tblG := tblG_2 (i := 64) rfl rfl
set_option maxRecDepth 20000 in
theorem t_307 : Cond.instanceMethod y_LN_length ∈ tblG := tblG_2 (i := 67) rfl rfl
set_option maxRecDepth 20000 in
theorem t_308 : Cond.code y_LN_length c_LN_length 1 (some .int) ∈ tblG := tblG_2 (i := 68) rfl rfl
set_option maxRecDepth 20000 in
theorem t_309 : Cond.classLink "GroupViewsLaw" 10 "GroupViewsModel" ∈ tblG := tblG_2 (i := 69) rfl rfl
set_option maxRecDepth 20000 in
theorem t_310 : Cond.instantiable "GroupViewsModel" 23 ∈ tblG := tblG_2 (i := 70) rfl rfl
set_option maxRecDepth 20000 in
theorem t_311 : Cond.methodLink "GroupViewsLaw" 12 y_MD_init ∈ tblG := tblG_2 (i := 71) rfl rfl
set_option maxRecDepth 20000 in
theorem t_312 : Cond.instanceMethod y_MD_init ∈ tblG := tblG_2 (i := 72) rfl rfl
set_option maxRecDepth 20000 in
theorem t_313 : Cond.code y_MD_init c_MD_init 1 none ∈ tblG := tblG_2 (i := 73) rfl rfl
set_option maxRecDepth 20000 in
theorem t_314 : Cond.methodLink "GroupViewsModel" 1 objectInit ∈ tblG := tblG_2 (i := 74) rfl rfl
set_option maxRecDepth 20000 in
theorem t_315 : Cond.fieldLink "GroupViewsModel" 7 "GroupViewsModel" "view" "[I" ∈ tblG := tblG_2 (i := 75) rfl rfl
set_option maxRecDepth 20000 in
theorem t_316 : Cond.fieldLink "GroupViewsModel" 13 "GroupViewsModel" "change" "[I" ∈ tblG := tblG_2 (i := 76) rfl rfl
set_option maxRecDepth 20000 in
theorem t_317 : Cond.fieldLink "GroupViewsModel" 16 "GroupViewsModel" "changeSet" "[I" ∈ tblG := tblG_2 (i := 77) rfl rfl
set_option maxRecDepth 20000 in
theorem t_318 : Cond.fieldLink "GroupViewsModel" 19 "GroupViewsModel" "open" "[Z" ∈ tblG := tblG_2 (i := 78) rfl rfl
set_option maxRecDepth 20000 in
theorem t_319 : Cond.fieldLink "GroupViewsModel" 23 "GroupViewsModel" "blocked" "[Z" ∈ tblG := tblG_2 (i := 79) rfl rfl
set_option maxRecDepth 20000 in
theorem t_320 : Cond.fieldLink "GroupViewsModel" 26 "GroupViewsModel" "pending" "[I" ∈ tblG := tblG_2 (i := 80) rfl rfl
set_option maxRecDepth 20000 in
theorem t_321 : Cond.fieldLink "GroupViewsModel" 29 "GroupViewsModel" "told" "[I" ∈ tblG := tblG_2 (i := 81) rfl rfl
set_option maxRecDepth 20000 in
theorem t_322 : Cond.fieldLink "GroupViewsModel" 32 "GroupViewsModel" "sent" "[I" ∈ tblG := tblG_2 (i := 82) rfl rfl
set_option maxRecDepth 20000 in
theorem t_323 : Cond.fieldLink "GroupViewsModel" 35 "GroupViewsModel" "delivered" "[I" ∈ tblG := tblG_2 (i := 83) rfl rfl
set_option maxRecDepth 20000 in
theorem t_324 : Cond.fieldLink "GroupViewsModel" 38 "GroupViewsModel" "event" "[I" ∈ tblG := tblG_2 (i := 84) rfl rfl
set_option maxRecDepth 20000 in
theorem t_325 : Cond.fieldLink "GroupViewsModel" 86 "GroupViewsModel" "views" "I" ∈ tblG := tblG_2 (i := 85) rfl rfl
set_option maxRecDepth 20000 in
theorem t_326 : Cond.fieldLink "GroupViewsModel" 41 "GroupViewsModel" "members" "[I" ∈ tblG := tblG_2 (i := 86) rfl rfl
set_option maxRecDepth 20000 in
theorem t_327 : Cond.fieldLink "GroupViewsModel" 44 "GroupViewsModel" "starts" "[I" ∈ tblG := tblG_2 (i := 87) rfl rfl
set_option maxRecDepth 20000 in
theorem t_328 : Cond.fieldLink "GroupViewsModel" 47 "GroupViewsModel" "payload" "[I" ∈ tblG := tblG_2 (i := 88) rfl rfl
set_option maxRecDepth 20000 in
theorem t_329 : Cond.fieldLink "GroupViewsModel" 50 "GroupViewsModel" "vector" "[I" ∈ tblG := tblG_2 (i := 89) rfl rfl
set_option maxRecDepth 20000 in
theorem t_330 : Cond.fieldLink "GroupViewsModel" 53 "GroupViewsModel" "knows" "[Z" ∈ tblG := tblG_2 (i := 90) rfl rfl
set_option maxRecDepth 20000 in
theorem t_331 : Cond.fieldLink "GroupViewsModel" 56 "GroupViewsModel" "syncView" "[I" ∈ tblG := tblG_2 (i := 91) rfl rfl
set_option maxRecDepth 20000 in
theorem t_332 : Cond.fieldLink "GroupViewsModel" 59 "GroupViewsModel" "cut" "[I" ∈ tblG := tblG_2 (i := 92) rfl rfl
set_option maxRecDepth 20000 in
theorem t_333 : Cond.fieldLink "GroupViewsModel" 62 "GroupViewsModel" "heard" "[Z" ∈ tblG := tblG_2 (i := 93) rfl rfl
set_option maxRecDepth 20000 in
theorem t_334 : Cond.fieldLink "GroupViewsModel" 65 "GroupViewsModel" "packet" "[I" ∈ tblG := tblG_2 (i := 94) rfl rfl
set_option maxRecDepth 20000 in
theorem t_335 : Cond.fieldLink "GroupViewsModel" 68 "GroupViewsModel" "length" "[I" ∈ tblG := tblG_2 (i := 95) rfl rfl
set_option maxRecDepth 20000 in
theorem t_336 : Cond.fieldLink "GroupViewsModel" 71 "GroupViewsModel" "limit" "[I" ∈ tblG := tblG_2 (i := 96) rfl rfl
set_option maxRecDepth 20000 in
theorem t_337 : Cond.fieldLink "GroupViewsModel" 90 "GroupViewsModel" "companions" "I" ∈ tblG := tblG_2 (i := 97) rfl rfl
set_option maxRecDepth 20000 in
theorem t_385 : Cond.arrayClass .boolean ∈ tblG := tblG_2 (i := 145) rfl rfl
set_option maxRecDepth 20000 in
theorem t_386 : Cond.methodLink "GroupViewsLaw" 17 y_MD_send ∈ tblG := tblG_2 (i := 146) rfl rfl
set_option maxRecDepth 20000 in
theorem t_387 : Cond.instanceMethod y_MD_send ∈ tblG := tblG_2 (i := 147) rfl rfl
set_option maxRecDepth 20000 in
theorem t_388 : Cond.selects "GroupViewsModel" y_MD_send y_MD_send ∈ tblG := tblG_2 (i := 148) rfl rfl
set_option maxRecDepth 20000 in
theorem t_389 : Cond.code y_MD_send c_MD_send 5 (some .int) ∈ tblG := tblG_2 (i := 149) rfl rfl
set_option maxRecDepth 20000 in
theorem t_390 : Cond.methodLink "GroupViewsModel" 74 y_MD_within ∈ tblG := tblG_2 (i := 150) rfl rfl
set_option maxRecDepth 20000 in
theorem t_391 : Cond.static y_MD_within ∈ tblG := tblG_2 (i := 151) rfl rfl
set_option maxRecDepth 20000 in
theorem t_392 : Cond.code y_MD_within c_MD_within 3 (some .boolean) ∈ tblG := tblG_2 (i := 152) rfl rfl
set_option maxRecDepth 20000 in
theorem t_393 : Cond.methodLink "GroupViewsModel" 78 y_MD_present ∈ tblG := tblG_2 (i := 153) rfl rfl
set_option maxRecDepth 20000 in
theorem t_395 : Cond.instanceMethod y_MD_present ∈ tblG := tblG_2 (i := 155) rfl rfl
set_option maxRecDepth 20000 in
theorem t_396 : Cond.code y_MD_present c_MD_present 2 (some .int) ∈ tblG := tblG_2 (i := 156) rfl rfl
set_option maxRecDepth 20000 in
theorem t_397 : Cond.methodLink "GroupViewsModel" 82 y_MD_put ∈ tblG := tblG_2 (i := 157) rfl rfl
set_option maxRecDepth 20000 in
theorem t_399 : Cond.instanceMethod y_MD_put ∈ tblG := tblG_2 (i := 159) rfl rfl
set_option maxRecDepth 20000 in
theorem t_400 : Cond.code y_MD_put c_MD_put 5 none ∈ tblG := tblG_2 (i := 160) rfl rfl
set_option maxRecDepth 20000 in
theorem t_401 : Cond.methodLink "GroupViewsLaw" 21 y_MD_change ∈ tblG := tblG_2 (i := 161) rfl rfl
set_option maxRecDepth 20000 in
theorem t_402 : Cond.instanceMethod y_MD_change ∈ tblG := tblG_2 (i := 162) rfl rfl
set_option maxRecDepth 20000 in
theorem t_403 : Cond.selects "GroupViewsModel" y_MD_change y_MD_change ∈ tblG := tblG_2 (i := 163) rfl rfl
set_option maxRecDepth 20000 in
theorem t_404 : Cond.code y_MD_change c_MD_change 5 (some .int) ∈ tblG := tblG_2 (i := 164) rfl rfl
set_option maxRecDepth 20000 in
theorem t_405 : Cond.methodLink "GroupViewsLaw" 26 y_MD_form ∈ tblG := tblG_2 (i := 165) rfl rfl
set_option maxRecDepth 20000 in
theorem t_406 : Cond.instanceMethod y_MD_form ∈ tblG := tblG_2 (i := 166) rfl rfl
set_option maxRecDepth 20000 in
theorem t_407 : Cond.selects "GroupViewsModel" y_MD_form y_MD_form ∈ tblG := tblG_2 (i := 167) rfl rfl
set_option maxRecDepth 20000 in
theorem t_408 : Cond.code y_MD_form c_MD_form 3 (some .int) ∈ tblG := tblG_2 (i := 168) rfl rfl
set_option maxRecDepth 20000 in
theorem t_409 : Cond.methodLink "GroupViewsLaw" 30 y_MD_tell ∈ tblG := tblG_2 (i := 169) rfl rfl
set_option maxRecDepth 20000 in
theorem t_410 : Cond.instanceMethod y_MD_tell ∈ tblG := tblG_2 (i := 170) rfl rfl
set_option maxRecDepth 20000 in
theorem t_411 : Cond.selects "GroupViewsModel" y_MD_tell y_MD_tell ∈ tblG := tblG_2 (i := 171) rfl rfl
set_option maxRecDepth 20000 in
theorem t_412 : Cond.code y_MD_tell c_MD_tell 3 (some .int) ∈ tblG := tblG_2 (i := 172) rfl rfl
set_option maxRecDepth 20000 in
theorem t_413 : Cond.methodLink "GroupViewsLaw" 34 y_MD_carry ∈ tblG := tblG_2 (i := 173) rfl rfl
set_option maxRecDepth 20000 in
theorem t_414 : Cond.instanceMethod y_MD_carry ∈ tblG := tblG_2 (i := 174) rfl rfl
set_option maxRecDepth 20000 in
theorem t_415 : Cond.selects "GroupViewsModel" y_MD_carry y_MD_carry ∈ tblG := tblG_2 (i := 175) rfl rfl
set_option maxRecDepth 20000 in
theorem t_416 : Cond.code y_MD_carry c_MD_carry 8 (some .int) ∈ tblG := tblG_2 (i := 176) rfl rfl
set_option maxRecDepth 20000 in
theorem t_417 : Cond.methodLink "GroupViewsLaw" 38 y_MD_step ∈ tblG := tblG_2 (i := 177) rfl rfl
set_option maxRecDepth 20000 in
theorem t_418 : Cond.instanceMethod y_MD_step ∈ tblG := tblG_2 (i := 178) rfl rfl
set_option maxRecDepth 20000 in
theorem t_419 : Cond.selects "GroupViewsModel" y_MD_step y_MD_step ∈ tblG := tblG_2 (i := 179) rfl rfl
set_option maxRecDepth 20000 in
theorem t_420 : Cond.code y_MD_step c_MD_step 5 (some .int) ∈ tblG := tblG_2 (i := 180) rfl rfl
set_option maxRecDepth 20000 in
theorem t_421 : Cond.methodLink "GroupViewsModel" 93 y_MD_limits ∈ tblG := tblG_2 (i := 181) rfl rfl
set_option maxRecDepth 20000 in
theorem t_423 : Cond.instanceMethod y_MD_limits ∈ tblG := tblG_2 (i := 183) rfl rfl
set_option maxRecDepth 20000 in
theorem t_424 : Cond.code y_MD_limits c_MD_limits 7 (some .int) ∈ tblG := tblG_2 (i := 184) rfl rfl
set_option maxRecDepth 20000 in
theorem t_425 : Cond.methodLink "GroupViewsModel" 96 y_MD_deliverable ∈ tblG := tblG_2 (i := 185) rfl rfl
set_option maxRecDepth 20000 in
theorem t_427 : Cond.instanceMethod y_MD_deliverable ∈ tblG := tblG_2 (i := 187) rfl rfl
set_option maxRecDepth 20000 in
theorem t_428 : Cond.code y_MD_deliverable c_MD_deliverable 6 (some .boolean) ∈ tblG := tblG_2 (i := 188) rfl rfl
set_option maxRecDepth 20000 in
theorem t_429 : Cond.methodLink "GroupViewsModel" 100 y_MD_note ∈ tblG := tblG_2 (i := 189) rfl rfl
set_option maxRecDepth 20000 in
theorem t_431 : Cond.instanceMethod y_MD_note ∈ tblG := tblG_2 (i := 191) rfl rfl
set_option maxRecDepth 20000 in
theorem t_432 : Cond.code y_MD_note c_MD_note 6 none ∈ tblG := tblG_2 (i := 192) rfl rfl
set_option maxRecDepth 20000 in
theorem t_433 : Cond.methodLink "GroupViewsLaw" 42 y_MD_event ∈ tblG := tblG_2 (i := 193) rfl rfl
set_option maxRecDepth 20000 in
theorem t_434 : Cond.instanceMethod y_MD_event ∈ tblG := tblG_2 (i := 194) rfl rfl
set_option maxRecDepth 20000 in
theorem t_435 : Cond.selects "GroupViewsModel" y_MD_event y_MD_event ∈ tblG := tblG_2 (i := 195) rfl rfl
set_option maxRecDepth 20000 in
theorem t_436 : Cond.code y_MD_event c_MD_event 3 (some .int) ∈ tblG := tblG_2 (i := 196) rfl rfl
set_option maxRecDepth 20000 in
theorem t_437 : Cond.methodLink "GroupViewsLaw" 46 y_MD_view ∈ tblG := tblG_2 (i := 197) rfl rfl
set_option maxRecDepth 20000 in
theorem t_438 : Cond.instanceMethod y_MD_view ∈ tblG := tblG_2 (i := 198) rfl rfl
set_option maxRecDepth 20000 in
theorem t_439 : Cond.selects "GroupViewsModel" y_MD_view y_MD_view ∈ tblG := tblG_2 (i := 199) rfl rfl
set_option maxRecDepth 20000 in
theorem t_440 : Cond.code y_MD_view c_MD_view 2 (some .int) ∈ tblG := tblG_2 (i := 200) rfl rfl
set_option maxRecDepth 20000 in
theorem t_441 : Cond.methodLink "GroupViewsLaw" 50 y_MD_members ∈ tblG := tblG_2 (i := 201) rfl rfl
set_option maxRecDepth 20000 in
theorem t_442 : Cond.instanceMethod y_MD_members ∈ tblG := tblG_2 (i := 202) rfl rfl
set_option maxRecDepth 20000 in
theorem t_443 : Cond.selects "GroupViewsModel" y_MD_members y_MD_members ∈ tblG := tblG_2 (i := 203) rfl rfl
set_option maxRecDepth 20000 in
theorem t_444 : Cond.code y_MD_members c_MD_members 2 (some .int) ∈ tblG := tblG_2 (i := 204) rfl rfl
set_option maxRecDepth 20000 in
theorem t_445 : Cond.methodLink "GroupViewsLaw" 54 y_MD_start ∈ tblG := tblG_2 (i := 205) rfl rfl
set_option maxRecDepth 20000 in
theorem t_446 : Cond.instanceMethod y_MD_start ∈ tblG := tblG_2 (i := 206) rfl rfl
set_option maxRecDepth 20000 in
theorem t_447 : Cond.selects "GroupViewsModel" y_MD_start y_MD_start ∈ tblG := tblG_2 (i := 207) rfl rfl
set_option maxRecDepth 20000 in
theorem t_448 : Cond.code y_MD_start c_MD_start 3 (some .int) ∈ tblG := tblG_2 (i := 208) rfl rfl
set_option maxRecDepth 20000 in
theorem t_449 : Cond.methodLink "GroupViewsLaw" 59 y_MD_blocked ∈ tblG := tblG_2 (i := 209) rfl rfl
set_option maxRecDepth 20000 in
theorem t_450 : Cond.instanceMethod y_MD_blocked ∈ tblG := tblG_2 (i := 210) rfl rfl
set_option maxRecDepth 20000 in
theorem t_451 : Cond.selects "GroupViewsModel" y_MD_blocked y_MD_blocked ∈ tblG := tblG_2 (i := 211) rfl rfl
set_option maxRecDepth 20000 in
theorem t_452 : Cond.code y_MD_blocked c_MD_blocked 2 (some .boolean) ∈ tblG := tblG_2 (i := 212) rfl rfl
set_option maxRecDepth 20000 in
theorem t_453 : Cond.methodLink "GroupViewsLaw" 63 y_MD_pending ∈ tblG := tblG_2 (i := 213) rfl rfl
set_option maxRecDepth 20000 in
theorem t_454 : Cond.instanceMethod y_MD_pending ∈ tblG := tblG_2 (i := 214) rfl rfl
set_option maxRecDepth 20000 in
theorem t_455 : Cond.selects "GroupViewsModel" y_MD_pending y_MD_pending ∈ tblG := tblG_2 (i := 215) rfl rfl
set_option maxRecDepth 20000 in
theorem t_456 : Cond.code y_MD_pending c_MD_pending 2 (some .int) ∈ tblG := tblG_2 (i := 216) rfl rfl
set_option maxRecDepth 20000 in
theorem t_457 : Cond.methodLink "GroupViewsLaw" 67 y_MD_changes ∈ tblG := tblG_2 (i := 217) rfl rfl
set_option maxRecDepth 20000 in
theorem t_458 : Cond.instanceMethod y_MD_changes ∈ tblG := tblG_2 (i := 218) rfl rfl
set_option maxRecDepth 20000 in
theorem t_459 : Cond.selects "GroupViewsModel" y_MD_changes y_MD_changes ∈ tblG := tblG_2 (i := 219) rfl rfl
set_option maxRecDepth 20000 in
theorem t_460 : Cond.code y_MD_changes c_MD_changes 2 (some .int) ∈ tblG := tblG_2 (i := 220) rfl rfl
set_option maxRecDepth 20000 in
theorem t_461 : Cond.methodLink "GroupViewsLaw" 71 y_MD_sent ∈ tblG := tblG_2 (i := 221) rfl rfl
set_option maxRecDepth 20000 in
theorem t_462 : Cond.instanceMethod y_MD_sent ∈ tblG := tblG_2 (i := 222) rfl rfl
set_option maxRecDepth 20000 in
theorem t_463 : Cond.selects "GroupViewsModel" y_MD_sent y_MD_sent ∈ tblG := tblG_2 (i := 223) rfl rfl
set_option maxRecDepth 20000 in
theorem t_464 : Cond.code y_MD_sent c_MD_sent 2 (some .int) ∈ tblG := tblG_2 (i := 224) rfl rfl
set_option maxRecDepth 20000 in
theorem t_465 : Cond.methodLink "GroupViewsLaw" 75 y_MD_delivered ∈ tblG := tblG_2 (i := 225) rfl rfl
set_option maxRecDepth 20000 in
theorem t_466 : Cond.instanceMethod y_MD_delivered ∈ tblG := tblG_2 (i := 226) rfl rfl
set_option maxRecDepth 20000 in
theorem t_467 : Cond.selects "GroupViewsModel" y_MD_delivered y_MD_delivered ∈ tblG := tblG_2 (i := 227) rfl rfl
set_option maxRecDepth 20000 in
theorem t_468 : Cond.code y_MD_delivered c_MD_delivered 3 (some .int) ∈ tblG := tblG_2 (i := 228) rfl rfl
set_option maxRecDepth 20000 in
theorem t_469 : Cond.methodLink "GroupViewsLaw" 79 y_MD_known ∈ tblG := tblG_2 (i := 229) rfl rfl
set_option maxRecDepth 20000 in
theorem t_470 : Cond.instanceMethod y_MD_known ∈ tblG := tblG_2 (i := 230) rfl rfl
set_option maxRecDepth 20000 in
theorem t_471 : Cond.selects "GroupViewsModel" y_MD_known y_MD_known ∈ tblG := tblG_2 (i := 231) rfl rfl
set_option maxRecDepth 20000 in
theorem t_472 : Cond.code y_MD_known c_MD_known 5 (some .int) ∈ tblG := tblG_2 (i := 232) rfl rfl
set_option maxRecDepth 20000 in
theorem t_473 : Cond.methodLink "GroupViewsLaw" 83 y_MD_waiting ∈ tblG := tblG_2 (i := 233) rfl rfl
set_option maxRecDepth 20000 in
theorem t_474 : Cond.instanceMethod y_MD_waiting ∈ tblG := tblG_2 (i := 234) rfl rfl
set_option maxRecDepth 20000 in
theorem t_475 : Cond.selects "GroupViewsModel" y_MD_waiting y_MD_waiting ∈ tblG := tblG_2 (i := 235) rfl rfl
set_option maxRecDepth 20000 in
theorem t_476 : Cond.code y_MD_waiting c_MD_waiting 3 (some .int) ∈ tblG := tblG_2 (i := 236) rfl rfl
theorem ts_PS_learnMessage : Cond.selects "GroupViews$ProcessState" y_PS_learnMessage y_PS_learnMessage ∈ tblG := tblG_s (i := 0) rfl
theorem ts_GV_presentSet : Cond.selects "GroupViews" y_GV_presentSet y_GV_presentSet ∈ tblG := tblG_s (i := 1) rfl
theorem ts_GV_putToOthers : Cond.selects "GroupViews" y_GV_putToOthers y_GV_putToOthers ∈ tblG := tblG_s (i := 2) rfl
theorem ts_LN_put : Cond.selects "GroupViews$Line" y_LN_put y_LN_put ∈ tblG := tblG_s (i := 3) rfl
theorem ts_PS_learnSync : Cond.selects "GroupViews$ProcessState" y_PS_learnSync y_PS_learnSync ∈ tblG := tblG_s (i := 4) rfl
theorem ts_GV_canForm : Cond.selects "GroupViews" y_GV_canForm y_GV_canForm ∈ tblG := tblG_s (i := 5) rfl
theorem ts_GV_isFormed : Cond.selects "GroupViews" y_GV_isFormed y_GV_isFormed ∈ tblG := tblG_s (i := 6) rfl
theorem ts_LN_takeFirst : Cond.selects "GroupViews$Line" y_LN_takeFirst y_LN_takeFirst ∈ tblG := tblG_s (i := 7) rfl
theorem ts_GV_receiveSync : Cond.selects "GroupViews" y_GV_receiveSync y_GV_receiveSync ∈ tblG := tblG_s (i := 8) rfl
theorem ts_GV_deliverOne : Cond.selects "GroupViews" y_GV_deliverOne y_GV_deliverOne ∈ tblG := tblG_s (i := 9) rfl
theorem ts_GV_isDeliverable : Cond.selects "GroupViews" y_GV_isDeliverable y_GV_isDeliverable ∈ tblG := tblG_s (i := 10) rfl
theorem ts_PS_knowsMessage : Cond.selects "GroupViews$ProcessState" y_PS_knowsMessage y_PS_knowsMessage ∈ tblG := tblG_s (i := 11) rfl
theorem ts_PS_setEvent : Cond.selects "GroupViews$ProcessState" y_PS_setEvent y_PS_setEvent ∈ tblG := tblG_s (i := 12) rfl
theorem ts_GV_isReady : Cond.selects "GroupViews" y_GV_isReady y_GV_isReady ∈ tblG := tblG_s (i := 13) rfl
theorem ts_PS_knowsSync : Cond.selects "GroupViews$ProcessState" y_PS_knowsSync y_PS_knowsSync ∈ tblG := tblG_s (i := 14) rfl
theorem ts_GV_companionsAmong : Cond.selects "GroupViews" y_GV_companionsAmong y_GV_companionsAmong ∈ tblG := tblG_s (i := 15) rfl
theorem ts_GV_limitsOf : Cond.selects "GroupViews" y_GV_limitsOf y_GV_limitsOf ∈ tblG := tblG_s (i := 16) rfl
theorem ts_PS_enterPending : Cond.selects "GroupViews$ProcessState" y_PS_enterPending y_PS_enterPending ∈ tblG := tblG_s (i := 17) rfl
theorem ts_PS_messagesKnownOf : Cond.selects "GroupViews$ProcessState" y_PS_messagesKnownOf y_PS_messagesKnownOf ∈ tblG := tblG_s (i := 18) rfl
theorem ts_LN_length : Cond.selects "GroupViews$Line" y_LN_length y_LN_length ∈ tblG := tblG_s (i := 19) rfl
theorem ts_MD_present : Cond.selects "GroupViewsModel" y_MD_present y_MD_present ∈ tblG := tblG_s (i := 20) rfl
theorem ts_MD_put : Cond.selects "GroupViewsModel" y_MD_put y_MD_put ∈ tblG := tblG_s (i := 21) rfl
theorem ts_MD_limits : Cond.selects "GroupViewsModel" y_MD_limits y_MD_limits ∈ tblG := tblG_s (i := 22) rfl
theorem ts_MD_deliverable : Cond.selects "GroupViewsModel" y_MD_deliverable y_MD_deliverable ∈ tblG := tblG_s (i := 23) rfl
theorem ts_MD_note : Cond.selects "GroupViewsModel" y_MD_note y_MD_note ∈ tblG := tblG_s (i := 24) rfl
theorem in_LN : ∀ w ∈ u_ws "GroupViews$Line" T_LN 3, w ∈ tblG := by
  intro w hw
  refine tblG_in ?_ ?_
  · revert w; decide +kernel
  · revert w; decide +kernel
theorem in_PS : ∀ w ∈ u_ws "GroupViews$ProcessState" T_PS 16, w ∈ tblG := by
  intro w hw
  refine tblG_in ?_ ?_
  · revert w; decide +kernel
  · revert w; decide +kernel
theorem in_GV : ∀ w ∈ u_ws "GroupViews" T_GV 5, w ∈ tblG := by
  intro w hw
  refine tblG_in ?_ ?_
  · revert w; decide +kernel
  · revert w; decide +kernel
theorem in_MD : ∀ w ∈ u_ws "GroupViewsModel" T_MD 23, w ∈ tblG := by
  intro w hw
  refine tblG_in ?_ ?_
  · revert w; decide +kernel
  · revert w; decide +kernel
