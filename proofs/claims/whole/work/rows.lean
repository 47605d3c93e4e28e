section
-- ===== PART A: goes FIRST, ahead of the names: the tables' words, and 'selects' of the private methods out of them =====
/-- a private method of a class that the tables say can be made, by its rows of tables_1 -/
def lw_okq (q : MethodName × Nat) : Prop := (q.1.cls ≠ "java/lang/invoke/MethodHandle" ∧ q.1.cls ≠ "java/lang/invoke/VarHandle") ∧ Cond.instantiable q.1.cls q.2 ∈ tables_1 ∧ Cond.privateMethod q.1 ∈ tables_1 ∧ Cond.instanceMethod q.1 ∈ tables_1
theorem lw_p0 : lw_okq (⟨"GroupViews$ProcessState", "learnMessage", "(III)V"⟩, 16) := ⟨⟨by decide +kernel, by decide +kernel⟩, List.mem_of_getElem? (i := 19) (by decide +kernel), List.mem_of_getElem? (i := 129) (by decide +kernel), List.mem_of_getElem? (i := 130) (by decide +kernel)⟩
theorem lw_p1 : lw_okq (⟨"GroupViews", "presentSet", "(I)I"⟩, 5) := ⟨⟨by decide +kernel, by decide +kernel⟩, List.mem_of_getElem? (i := 8) (by decide +kernel), List.mem_of_getElem? (i := 133) (by decide +kernel), List.mem_of_getElem? (i := 134) (by decide +kernel)⟩
theorem lw_p2 : lw_okq (⟨"GroupViews", "putToOthers", "(III)V"⟩, 5) := ⟨⟨by decide +kernel, by decide +kernel⟩, List.mem_of_getElem? (i := 8) (by decide +kernel), List.mem_of_getElem? (i := 137) (by decide +kernel), List.mem_of_getElem? (i := 138) (by decide +kernel)⟩
theorem lw_p3 : lw_okq (⟨"GroupViews$Line", "put", "(I)V"⟩, 3) := ⟨⟨by decide +kernel, by decide +kernel⟩, List.mem_of_getElem? (i := 84) (by decide +kernel), List.mem_of_getElem? (i := 147) (by decide +kernel), List.mem_of_getElem? (i := 148) (by decide +kernel)⟩
theorem lw_p4 : lw_okq (⟨"GroupViews$ProcessState", "learnSync", "(II)V"⟩, 16) := ⟨⟨by decide +kernel, by decide +kernel⟩, List.mem_of_getElem? (i := 19) (by decide +kernel), List.mem_of_getElem? (i := 158) (by decide +kernel), List.mem_of_getElem? (i := 159) (by decide +kernel)⟩
theorem lw_p5 : lw_okq (⟨"GroupViews", "canForm", "(I)Z"⟩, 5) := ⟨⟨by decide +kernel, by decide +kernel⟩, List.mem_of_getElem? (i := 8) (by decide +kernel), List.mem_of_getElem? (i := 166) (by decide +kernel), List.mem_of_getElem? (i := 167) (by decide +kernel)⟩
theorem lw_p6 : lw_okq (⟨"GroupViews", "isFormed", "(I)Z"⟩, 5) := ⟨⟨by decide +kernel, by decide +kernel⟩, List.mem_of_getElem? (i := 8) (by decide +kernel), List.mem_of_getElem? (i := 177) (by decide +kernel), List.mem_of_getElem? (i := 178) (by decide +kernel)⟩
theorem lw_p7 : lw_okq (⟨"GroupViews$Line", "takeFirst", "()I"⟩, 3) := ⟨⟨by decide +kernel, by decide +kernel⟩, List.mem_of_getElem? (i := 84) (by decide +kernel), List.mem_of_getElem? (i := 188) (by decide +kernel), List.mem_of_getElem? (i := 189) (by decide +kernel)⟩
theorem lw_p8 : lw_okq (⟨"GroupViews", "receiveSync", "(LGroupViews$ProcessState;II)V"⟩, 5) := ⟨⟨by decide +kernel, by decide +kernel⟩, List.mem_of_getElem? (i := 8) (by decide +kernel), List.mem_of_getElem? (i := 198) (by decide +kernel), List.mem_of_getElem? (i := 199) (by decide +kernel)⟩
theorem lw_p9 : lw_okq (⟨"GroupViews", "deliverOne", "(LGroupViews$ProcessState;I)I"⟩, 5) := ⟨⟨by decide +kernel, by decide +kernel⟩, List.mem_of_getElem? (i := 8) (by decide +kernel), List.mem_of_getElem? (i := 210) (by decide +kernel), List.mem_of_getElem? (i := 211) (by decide +kernel)⟩
theorem lw_p10 : lw_okq (⟨"GroupViews", "isDeliverable", "(LGroupViews$ProcessState;II)Z"⟩, 5) := ⟨⟨by decide +kernel, by decide +kernel⟩, List.mem_of_getElem? (i := 8) (by decide +kernel), List.mem_of_getElem? (i := 214) (by decide +kernel), List.mem_of_getElem? (i := 215) (by decide +kernel)⟩
theorem lw_p11 : lw_okq (⟨"GroupViews$ProcessState", "knowsMessage", "(II)Z"⟩, 16) := ⟨⟨by decide +kernel, by decide +kernel⟩, List.mem_of_getElem? (i := 19) (by decide +kernel), List.mem_of_getElem? (i := 218) (by decide +kernel), List.mem_of_getElem? (i := 219) (by decide +kernel)⟩
theorem lw_p12 : lw_okq (⟨"GroupViews$ProcessState", "setEvent", "(IIII)V"⟩, 16) := ⟨⟨by decide +kernel, by decide +kernel⟩, List.mem_of_getElem? (i := 19) (by decide +kernel), List.mem_of_getElem? (i := 222) (by decide +kernel), List.mem_of_getElem? (i := 223) (by decide +kernel)⟩
theorem lw_p13 : lw_okq (⟨"GroupViews", "isReady", "(LGroupViews$ProcessState;I)Z"⟩, 5) := ⟨⟨by decide +kernel, by decide +kernel⟩, List.mem_of_getElem? (i := 8) (by decide +kernel), List.mem_of_getElem? (i := 226) (by decide +kernel), List.mem_of_getElem? (i := 227) (by decide +kernel)⟩
theorem lw_p14 : lw_okq (⟨"GroupViews$ProcessState", "knowsSync", "(II)Z"⟩, 16) := ⟨⟨by decide +kernel, by decide +kernel⟩, List.mem_of_getElem? (i := 19) (by decide +kernel), List.mem_of_getElem? (i := 230) (by decide +kernel), List.mem_of_getElem? (i := 231) (by decide +kernel)⟩
theorem lw_p15 : lw_okq (⟨"GroupViews", "companionsAmong", "(LGroupViews$ProcessState;I)I"⟩, 5) := ⟨⟨by decide +kernel, by decide +kernel⟩, List.mem_of_getElem? (i := 8) (by decide +kernel), List.mem_of_getElem? (i := 234) (by decide +kernel), List.mem_of_getElem? (i := 235) (by decide +kernel)⟩
def lw_privs_1 : List (MethodName × Nat) := [(⟨"GroupViews$ProcessState", "learnMessage", "(III)V"⟩, 16), (⟨"GroupViews", "presentSet", "(I)I"⟩, 5), (⟨"GroupViews", "putToOthers", "(III)V"⟩, 5), (⟨"GroupViews$Line", "put", "(I)V"⟩, 3), (⟨"GroupViews$ProcessState", "learnSync", "(II)V"⟩, 16), (⟨"GroupViews", "canForm", "(I)Z"⟩, 5), (⟨"GroupViews", "isFormed", "(I)Z"⟩, 5), (⟨"GroupViews$Line", "takeFirst", "()I"⟩, 3), (⟨"GroupViews", "receiveSync", "(LGroupViews$ProcessState;II)V"⟩, 5), (⟨"GroupViews", "deliverOne", "(LGroupViews$ProcessState;I)I"⟩, 5), (⟨"GroupViews", "isDeliverable", "(LGroupViews$ProcessState;II)Z"⟩, 5), (⟨"GroupViews$ProcessState", "knowsMessage", "(II)Z"⟩, 16), (⟨"GroupViews$ProcessState", "setEvent", "(IIII)V"⟩, 16), (⟨"GroupViews", "isReady", "(LGroupViews$ProcessState;I)Z"⟩, 5), (⟨"GroupViews$ProcessState", "knowsSync", "(II)Z"⟩, 16), (⟨"GroupViews", "companionsAmong", "(LGroupViews$ProcessState;I)I"⟩, 5)]
theorem lw_r1 : ∀ q ∈ lw_privs_1, lw_okq q := List.forall_mem_cons.mpr ⟨lw_p0, List.forall_mem_cons.mpr ⟨lw_p1, List.forall_mem_cons.mpr ⟨lw_p2, List.forall_mem_cons.mpr ⟨lw_p3, List.forall_mem_cons.mpr ⟨lw_p4, List.forall_mem_cons.mpr ⟨lw_p5, List.forall_mem_cons.mpr ⟨lw_p6, List.forall_mem_cons.mpr ⟨lw_p7, List.forall_mem_cons.mpr ⟨lw_p8, List.forall_mem_cons.mpr ⟨lw_p9, List.forall_mem_cons.mpr ⟨lw_p10, List.forall_mem_cons.mpr ⟨lw_p11, List.forall_mem_cons.mpr ⟨lw_p12, List.forall_mem_cons.mpr ⟨lw_p13, List.forall_mem_cons.mpr ⟨lw_p14, List.forall_mem_cons.mpr ⟨lw_p15, fun _ h => absurd h List.not_mem_nil⟩⟩⟩⟩⟩⟩⟩⟩⟩⟩⟩⟩⟩⟩⟩⟩
theorem lw_p16 : lw_okq (⟨"GroupViews", "limitsOf", "(II)I"⟩, 5) := ⟨⟨by decide +kernel, by decide +kernel⟩, List.mem_of_getElem? (i := 8) (by decide +kernel), List.mem_of_getElem? (i := 238) (by decide +kernel), List.mem_of_getElem? (i := 239) (by decide +kernel)⟩
theorem lw_p17 : lw_okq (⟨"GroupViews$ProcessState", "enterPending", "()V"⟩, 16) := ⟨⟨by decide +kernel, by decide +kernel⟩, List.mem_of_getElem? (i := 19) (by decide +kernel), List.mem_of_getElem? (i := 248) (by decide +kernel), List.mem_of_getElem? (i := 249) (by decide +kernel)⟩
theorem lw_p18 : lw_okq (⟨"GroupViews$ProcessState", "messagesKnownOf", "(I)I"⟩, 16) := ⟨⟨by decide +kernel, by decide +kernel⟩, List.mem_of_getElem? (i := 19) (by decide +kernel), List.mem_of_getElem? (i := 292) (by decide +kernel), List.mem_of_getElem? (i := 293) (by decide +kernel)⟩
theorem lw_p19 : lw_okq (⟨"GroupViews$Line", "length", "()I"⟩, 3) := ⟨⟨by decide +kernel, by decide +kernel⟩, List.mem_of_getElem? (i := 84) (by decide +kernel), List.mem_of_getElem? (i := 306) (by decide +kernel), List.mem_of_getElem? (i := 307) (by decide +kernel)⟩
theorem lw_p20 : lw_okq (⟨"GroupViewsModel", "present", "(I)I"⟩, 23) := ⟨⟨by decide +kernel, by decide +kernel⟩, List.mem_of_getElem? (i := 310) (by decide +kernel), List.mem_of_getElem? (i := 394) (by decide +kernel), List.mem_of_getElem? (i := 395) (by decide +kernel)⟩
theorem lw_p21 : lw_okq (⟨"GroupViewsModel", "put", "(III)V"⟩, 23) := ⟨⟨by decide +kernel, by decide +kernel⟩, List.mem_of_getElem? (i := 310) (by decide +kernel), List.mem_of_getElem? (i := 398) (by decide +kernel), List.mem_of_getElem? (i := 399) (by decide +kernel)⟩
theorem lw_p22 : lw_okq (⟨"GroupViewsModel", "limits", "(I)I"⟩, 23) := ⟨⟨by decide +kernel, by decide +kernel⟩, List.mem_of_getElem? (i := 310) (by decide +kernel), List.mem_of_getElem? (i := 422) (by decide +kernel), List.mem_of_getElem? (i := 423) (by decide +kernel)⟩
theorem lw_p23 : lw_okq (⟨"GroupViewsModel", "deliverable", "(II)Z"⟩, 23) := ⟨⟨by decide +kernel, by decide +kernel⟩, List.mem_of_getElem? (i := 310) (by decide +kernel), List.mem_of_getElem? (i := 426) (by decide +kernel), List.mem_of_getElem? (i := 427) (by decide +kernel)⟩
theorem lw_p24 : lw_okq (⟨"GroupViewsModel", "note", "(IIIII)V"⟩, 23) := ⟨⟨by decide +kernel, by decide +kernel⟩, List.mem_of_getElem? (i := 310) (by decide +kernel), List.mem_of_getElem? (i := 430) (by decide +kernel), List.mem_of_getElem? (i := 431) (by decide +kernel)⟩
def lw_privs_2 : List (MethodName × Nat) := [(⟨"GroupViews", "limitsOf", "(II)I"⟩, 5), (⟨"GroupViews$ProcessState", "enterPending", "()V"⟩, 16), (⟨"GroupViews$ProcessState", "messagesKnownOf", "(I)I"⟩, 16), (⟨"GroupViews$Line", "length", "()I"⟩, 3), (⟨"GroupViewsModel", "present", "(I)I"⟩, 23), (⟨"GroupViewsModel", "put", "(III)V"⟩, 23), (⟨"GroupViewsModel", "limits", "(I)I"⟩, 23), (⟨"GroupViewsModel", "deliverable", "(II)Z"⟩, 23), (⟨"GroupViewsModel", "note", "(IIIII)V"⟩, 23)]
theorem lw_r2 : ∀ q ∈ lw_privs_2, lw_okq q := List.forall_mem_cons.mpr ⟨lw_p16, List.forall_mem_cons.mpr ⟨lw_p17, List.forall_mem_cons.mpr ⟨lw_p18, List.forall_mem_cons.mpr ⟨lw_p19, List.forall_mem_cons.mpr ⟨lw_p20, List.forall_mem_cons.mpr ⟨lw_p21, List.forall_mem_cons.mpr ⟨lw_p22, List.forall_mem_cons.mpr ⟨lw_p23, List.forall_mem_cons.mpr ⟨lw_p24, fun _ h => absurd h List.not_mem_nil⟩⟩⟩⟩⟩⟩⟩⟩⟩
def lw_privs : List (MethodName × Nat) := lw_privs_1 ++ (lw_privs_2)
def lw_tbl : List Cond := k2_sels lw_privs ++ tables_1
theorem lw_privs_ok : ∀ q ∈ lw_privs, lw_okq q := by
  show ∀ q ∈ lw_privs_1 ++ (lw_privs_2), lw_okq q
  exact List.forall_mem_append.mpr ⟨lw_r1, lw_r2⟩
-- ===== end of PART A of the skeleton =====
end
section
abbrev c_GV_init : ByteArray := prog_1_method_1_code
def y_GV_init : MethodName := ⟨"GroupViews", "<init>", "()V"⟩
abbrev c_PS_init : ByteArray := prog_3_method_1_code
def y_PS_init : MethodName := ⟨"GroupViews$ProcessState", "<init>", "()V"⟩
abbrev c_LN_init : ByteArray := prog_2_method_1_code
def y_LN_init : MethodName := ⟨"GroupViews$Line", "<init>", "()V"⟩
abbrev c_GV_send : ByteArray := prog_1_method_2_code
def y_GV_send : MethodName := ⟨"GroupViews", "send", "(II)I"⟩
abbrev c_GV_isProcess : ByteArray := prog_1_method_29_code
def y_GV_isProcess : MethodName := ⟨"GroupViews", "isProcess", "(I)Z"⟩
abbrev c_GV_slotOf : ByteArray := prog_1_method_35_code
def y_GV_slotOf : MethodName := ⟨"GroupViews", "slotOf", "(II)I"⟩
abbrev c_GV_withCount : ByteArray := prog_1_method_39_code
def y_GV_withCount : MethodName := ⟨"GroupViews", "withCount", "(III)I"⟩
abbrev c_PS_learnMessage : ByteArray := prog_3_method_2_code
def y_PS_learnMessage : MethodName := ⟨"GroupViews$ProcessState", "learnMessage", "(III)V"⟩
abbrev c_GV_presentSet : ByteArray := prog_1_method_27_code
def y_GV_presentSet : MethodName := ⟨"GroupViews", "presentSet", "(I)I"⟩
abbrev c_GV_putToOthers : ByteArray := prog_1_method_20_code
def y_GV_putToOthers : MethodName := ⟨"GroupViews", "putToOthers", "(III)V"⟩
abbrev c_GV_has : ByteArray := prog_1_method_32_code
def y_GV_has : MethodName := ⟨"GroupViews", "has", "(II)Z"⟩
abbrev c_GV_lineIndex : ByteArray := prog_1_method_33_code
def y_GV_lineIndex : MethodName := ⟨"GroupViews", "lineIndex", "(II)I"⟩
abbrev c_LN_put : ByteArray := prog_2_method_2_code
def y_LN_put : MethodName := ⟨"GroupViews$Line", "put", "(I)V"⟩
abbrev c_GV_change : ByteArray := prog_1_method_3_code
def y_GV_change : MethodName := ⟨"GroupViews", "change", "(II)I"⟩
abbrev c_GV_isNonEmptySet : ByteArray := prog_1_method_31_code
def y_GV_isNonEmptySet : MethodName := ⟨"GroupViews", "isNonEmptySet", "(I)Z"⟩
abbrev c_PS_learnSync : ByteArray := prog_3_method_5_code
def y_PS_learnSync : MethodName := ⟨"GroupViews$ProcessState", "learnSync", "(II)V"⟩
abbrev c_GV_form : ByteArray := prog_1_method_4_code
def y_GV_form : MethodName := ⟨"GroupViews", "form", "(I)I"⟩
abbrev c_GV_canForm : ByteArray := prog_1_method_19_code
def y_GV_canForm : MethodName := ⟨"GroupViews", "canForm", "(I)Z"⟩
abbrev c_GV_startIndex : ByteArray := prog_1_method_34_code
def y_GV_startIndex : MethodName := ⟨"GroupViews", "startIndex", "(II)I"⟩
abbrev c_GV_tell : ByteArray := prog_1_method_5_code
def y_GV_tell : MethodName := ⟨"GroupViews", "tell", "(II)I"⟩
abbrev c_GV_isFormed : ByteArray := prog_1_method_28_code
def y_GV_isFormed : MethodName := ⟨"GroupViews", "isFormed", "(I)Z"⟩
abbrev c_GV_carry : ByteArray := prog_1_method_6_code
def y_GV_carry : MethodName := ⟨"GroupViews", "carry", "(II)I"⟩
abbrev c_GV_isLine : ByteArray := prog_1_method_30_code
def y_GV_isLine : MethodName := ⟨"GroupViews", "isLine", "(II)Z"⟩
abbrev c_LN_takeFirst : ByteArray := prog_2_method_3_code
def y_LN_takeFirst : MethodName := ⟨"GroupViews$Line", "takeFirst", "()I"⟩
abbrev c_GV_viewOfSlot : ByteArray := prog_1_method_36_code
def y_GV_viewOfSlot : MethodName := ⟨"GroupViews", "viewOfSlot", "(I)I"⟩
abbrev c_GV_numberOfSlot : ByteArray := prog_1_method_37_code
def y_GV_numberOfSlot : MethodName := ⟨"GroupViews", "numberOfSlot", "(I)I"⟩
abbrev c_GV_receiveSync : ByteArray := prog_1_method_21_code
def y_GV_receiveSync : MethodName := ⟨"GroupViews", "receiveSync", "(LGroupViews$ProcessState;II)V"⟩
abbrev c_GV_countOf : ByteArray := prog_1_method_38_code
def y_GV_countOf : MethodName := ⟨"GroupViews", "countOf", "(II)I"⟩
abbrev c_GV_step : ByteArray := prog_1_method_7_code
def y_GV_step : MethodName := ⟨"GroupViews", "step", "(I)I"⟩
abbrev c_GV_deliverOne : ByteArray := prog_1_method_22_code
def y_GV_deliverOne : MethodName := ⟨"GroupViews", "deliverOne", "(LGroupViews$ProcessState;I)I"⟩
abbrev c_GV_isDeliverable : ByteArray := prog_1_method_23_code
def y_GV_isDeliverable : MethodName := ⟨"GroupViews", "isDeliverable", "(LGroupViews$ProcessState;II)Z"⟩
abbrev c_PS_knowsMessage : ByteArray := prog_3_method_3_code
def y_PS_knowsMessage : MethodName := ⟨"GroupViews$ProcessState", "knowsMessage", "(II)Z"⟩
abbrev c_PS_setEvent : ByteArray := prog_3_method_7_code
def y_PS_setEvent : MethodName := ⟨"GroupViews$ProcessState", "setEvent", "(IIII)V"⟩
abbrev c_GV_isReady : ByteArray := prog_1_method_24_code
def y_GV_isReady : MethodName := ⟨"GroupViews", "isReady", "(LGroupViews$ProcessState;I)Z"⟩
abbrev c_PS_knowsSync : ByteArray := prog_3_method_6_code
def y_PS_knowsSync : MethodName := ⟨"GroupViews$ProcessState", "knowsSync", "(II)Z"⟩
abbrev c_GV_companionsAmong : ByteArray := prog_1_method_25_code
def y_GV_companionsAmong : MethodName := ⟨"GroupViews", "companionsAmong", "(LGroupViews$ProcessState;I)I"⟩
abbrev c_GV_limitsOf : ByteArray := prog_1_method_26_code
def y_GV_limitsOf : MethodName := ⟨"GroupViews", "limitsOf", "(II)I"⟩
abbrev c_GV_greatestOfEach : ByteArray := prog_1_method_40_code
def y_GV_greatestOfEach : MethodName := ⟨"GroupViews", "greatestOfEach", "(II)I"⟩
abbrev c_MA_max : ByteArray := prog_7_method_65_code
def y_MA_max : MethodName := ⟨"java/lang/Math", "max", "(II)I"⟩
abbrev c_PS_enterPending : ByteArray := prog_3_method_8_code
def y_PS_enterPending : MethodName := ⟨"GroupViews$ProcessState", "enterPending", "()V"⟩
abbrev c_GV_event : ByteArray := prog_1_method_8_code
def y_GV_event : MethodName := ⟨"GroupViews", "event", "(II)I"⟩
abbrev c_GV_view : ByteArray := prog_1_method_9_code
def y_GV_view : MethodName := ⟨"GroupViews", "view", "(I)I"⟩
abbrev c_GV_members : ByteArray := prog_1_method_10_code
def y_GV_members : MethodName := ⟨"GroupViews", "members", "(I)I"⟩
abbrev c_GV_start : ByteArray := prog_1_method_11_code
def y_GV_start : MethodName := ⟨"GroupViews", "start", "(II)I"⟩
abbrev c_GV_blocked : ByteArray := prog_1_method_12_code
def y_GV_blocked : MethodName := ⟨"GroupViews", "blocked", "(I)Z"⟩
abbrev c_GV_pending : ByteArray := prog_1_method_13_code
def y_GV_pending : MethodName := ⟨"GroupViews", "pending", "(I)I"⟩
abbrev c_GV_changes : ByteArray := prog_1_method_14_code
def y_GV_changes : MethodName := ⟨"GroupViews", "changes", "(I)I"⟩
abbrev c_GV_sent : ByteArray := prog_1_method_15_code
def y_GV_sent : MethodName := ⟨"GroupViews", "sent", "(I)I"⟩
abbrev c_GV_delivered : ByteArray := prog_1_method_16_code
def y_GV_delivered : MethodName := ⟨"GroupViews", "delivered", "(II)I"⟩
abbrev c_GV_known : ByteArray := prog_1_method_17_code
def y_GV_known : MethodName := ⟨"GroupViews", "known", "(II)I"⟩
abbrev c_PS_messagesKnownOf : ByteArray := prog_3_method_4_code
def y_PS_messagesKnownOf : MethodName := ⟨"GroupViews$ProcessState", "messagesKnownOf", "(I)I"⟩
abbrev c_IN_bitCount : ByteArray := prog_6_method_49_code
def y_IN_bitCount : MethodName := ⟨"java/lang/Integer", "bitCount", "(I)I"⟩
abbrev c_GV_waiting : ByteArray := prog_1_method_18_code
def y_GV_waiting : MethodName := ⟨"GroupViews", "waiting", "(II)I"⟩
abbrev c_LN_length : ByteArray := prog_2_method_4_code
def y_LN_length : MethodName := ⟨"GroupViews$Line", "length", "()I"⟩
abbrev c_MD_init : ByteArray := prog_5_method_1_code
def y_MD_init : MethodName := ⟨"GroupViewsModel", "<init>", "()V"⟩
abbrev c_MD_send : ByteArray := prog_5_method_5_code
def y_MD_send : MethodName := ⟨"GroupViewsModel", "send", "(II)I"⟩
abbrev c_MD_within : ByteArray := prog_5_method_2_code
def y_MD_within : MethodName := ⟨"GroupViewsModel", "within", "(III)Z"⟩
abbrev c_MD_present : ByteArray := prog_5_method_3_code
def y_MD_present : MethodName := ⟨"GroupViewsModel", "present", "(I)I"⟩
abbrev c_MD_put : ByteArray := prog_5_method_4_code
def y_MD_put : MethodName := ⟨"GroupViewsModel", "put", "(III)V"⟩
abbrev c_MD_change : ByteArray := prog_5_method_6_code
def y_MD_change : MethodName := ⟨"GroupViewsModel", "change", "(II)I"⟩
abbrev c_MD_form : ByteArray := prog_5_method_7_code
def y_MD_form : MethodName := ⟨"GroupViewsModel", "form", "(I)I"⟩
abbrev c_MD_tell : ByteArray := prog_5_method_8_code
def y_MD_tell : MethodName := ⟨"GroupViewsModel", "tell", "(II)I"⟩
abbrev c_MD_carry : ByteArray := prog_5_method_9_code
def y_MD_carry : MethodName := ⟨"GroupViewsModel", "carry", "(II)I"⟩
abbrev c_MD_step : ByteArray := prog_5_method_13_code
def y_MD_step : MethodName := ⟨"GroupViewsModel", "step", "(I)I"⟩
abbrev c_MD_limits : ByteArray := prog_5_method_10_code
def y_MD_limits : MethodName := ⟨"GroupViewsModel", "limits", "(I)I"⟩
abbrev c_MD_deliverable : ByteArray := prog_5_method_11_code
def y_MD_deliverable : MethodName := ⟨"GroupViewsModel", "deliverable", "(II)Z"⟩
abbrev c_MD_note : ByteArray := prog_5_method_12_code
def y_MD_note : MethodName := ⟨"GroupViewsModel", "note", "(IIIII)V"⟩
abbrev c_MD_event : ByteArray := prog_5_method_14_code
def y_MD_event : MethodName := ⟨"GroupViewsModel", "event", "(II)I"⟩
abbrev c_MD_view : ByteArray := prog_5_method_15_code
def y_MD_view : MethodName := ⟨"GroupViewsModel", "view", "(I)I"⟩
abbrev c_MD_members : ByteArray := prog_5_method_16_code
def y_MD_members : MethodName := ⟨"GroupViewsModel", "members", "(I)I"⟩
abbrev c_MD_start : ByteArray := prog_5_method_17_code
def y_MD_start : MethodName := ⟨"GroupViewsModel", "start", "(II)I"⟩
abbrev c_MD_blocked : ByteArray := prog_5_method_18_code
def y_MD_blocked : MethodName := ⟨"GroupViewsModel", "blocked", "(I)Z"⟩
abbrev c_MD_pending : ByteArray := prog_5_method_19_code
def y_MD_pending : MethodName := ⟨"GroupViewsModel", "pending", "(I)I"⟩
abbrev c_MD_changes : ByteArray := prog_5_method_20_code
def y_MD_changes : MethodName := ⟨"GroupViewsModel", "changes", "(I)I"⟩
abbrev c_MD_sent : ByteArray := prog_5_method_21_code
def y_MD_sent : MethodName := ⟨"GroupViewsModel", "sent", "(I)I"⟩
abbrev c_MD_delivered : ByteArray := prog_5_method_22_code
def y_MD_delivered : MethodName := ⟨"GroupViewsModel", "delivered", "(II)I"⟩
abbrev c_MD_known : ByteArray := prog_5_method_23_code
def y_MD_known : MethodName := ⟨"GroupViewsModel", "known", "(II)I"⟩
abbrev c_MD_waiting : ByteArray := prog_5_method_24_code
def y_MD_waiting : MethodName := ⟨"GroupViewsModel", "waiting", "(II)I"⟩
def T_LN : u_T := fun k => match k with
  | 0 => ("GroupViews$Line", "packets", "[I", true)
  | 1 => ("GroupViews$Line", "first", "I", false)
  | _ => ("GroupViews$Line", "end", "I", false)
def ty_LN : Nat → FieldType := fun k => match k with
  | 0 => .array .int
  | 1 => .int
  | _ => .int
theorem nm_LN : ∀ a, a < 3 → ∀ b, b < 3 → a ≠ b → (T_LN a).2.1 ≠ (T_LN b).2.1 := by decide +kernel
theorem tyo_LN : ∀ k, k < 3 → parseFieldDescriptor (T_LN k).2.2.1 = some (ty_LN k) := by decide +kernel
def T_PS : u_T := fun k => match k with
  | 0 => ("GroupViews$ProcessState", "view", "I", false)
  | 1 => ("GroupViews$ProcessState", "lastChange", "I", false)
  | 2 => ("GroupViews$ProcessState", "changeSet", "I", false)
  | 3 => ("GroupViews$ProcessState", "open", "Z", false)
  | 4 => ("GroupViews$ProcessState", "blocked", "Z", false)
  | 5 => ("GroupViews$ProcessState", "pending", "I", false)
  | 6 => ("GroupViews$ProcessState", "greatestTold", "I", false)
  | 7 => ("GroupViews$ProcessState", "sent", "I", false)
  | 8 => ("GroupViews$ProcessState", "delivered", "I", false)
  | 9 => ("GroupViews$ProcessState", "knownNumbers", "[I", true)
  | 10 => ("GroupViews$ProcessState", "knownChanges", "[I", true)
  | 11 => ("GroupViews$ProcessState", "payloads", "[I", true)
  | 12 => ("GroupViews$ProcessState", "vectors", "[I", true)
  | 13 => ("GroupViews$ProcessState", "cutViews", "[I", true)
  | 14 => ("GroupViews$ProcessState", "cuts", "[I", true)
  | _ => ("GroupViews$ProcessState", "event", "[I", true)
def ty_PS : Nat → FieldType := fun k => match k with
  | 0 => .int
  | 1 => .int
  | 2 => .int
  | 3 => .boolean
  | 4 => .boolean
  | 5 => .int
  | 6 => .int
  | 7 => .int
  | 8 => .int
  | 9 => .array .int
  | 10 => .array .int
  | 11 => .array .int
  | 12 => .array .int
  | 13 => .array .int
  | 14 => .array .int
  | _ => .array .int
theorem nm_PS : ∀ a, a < 16 → ∀ b, b < 16 → a ≠ b → (T_PS a).2.1 ≠ (T_PS b).2.1 := by decide +kernel
theorem tyo_PS : ∀ k, k < 16 → parseFieldDescriptor (T_PS k).2.2.1 = some (ty_PS k) := by decide +kernel
def T_GV : u_T := fun k => match k with
  | 0 => ("GroupViews", "processes", "[LGroupViews$ProcessState;", true)
  | 1 => ("GroupViews", "lines", "[LGroupViews$Line;", true)
  | 2 => ("GroupViews", "sets", "[I", true)
  | 3 => ("GroupViews", "starts", "[I", true)
  | _ => ("GroupViews", "formed", "I", false)
def ty_GV : Nat → FieldType := fun k => match k with
  | 0 => .array (.object "GroupViews$ProcessState")
  | 1 => .array (.object "GroupViews$Line")
  | 2 => .array .int
  | 3 => .array .int
  | _ => .int
theorem nm_GV : ∀ a, a < 5 → ∀ b, b < 5 → a ≠ b → (T_GV a).2.1 ≠ (T_GV b).2.1 := by decide +kernel
theorem tyo_GV : ∀ k, k < 5 → parseFieldDescriptor (T_GV k).2.2.1 = some (ty_GV k) := by decide +kernel
def T_MD : u_T := fun k => match k with
  | 0 => ("GroupViewsModel", "view", "[I", true)
  | 1 => ("GroupViewsModel", "change", "[I", true)
  | 2 => ("GroupViewsModel", "changeSet", "[I", true)
  | 3 => ("GroupViewsModel", "open", "[Z", true)
  | 4 => ("GroupViewsModel", "blocked", "[Z", true)
  | 5 => ("GroupViewsModel", "pending", "[I", true)
  | 6 => ("GroupViewsModel", "told", "[I", true)
  | 7 => ("GroupViewsModel", "sent", "[I", true)
  | 8 => ("GroupViewsModel", "delivered", "[I", true)
  | 9 => ("GroupViewsModel", "event", "[I", true)
  | 10 => ("GroupViewsModel", "views", "I", false)
  | 11 => ("GroupViewsModel", "members", "[I", true)
  | 12 => ("GroupViewsModel", "starts", "[I", true)
  | 13 => ("GroupViewsModel", "payload", "[I", true)
  | 14 => ("GroupViewsModel", "vector", "[I", true)
  | 15 => ("GroupViewsModel", "knows", "[Z", true)
  | 16 => ("GroupViewsModel", "syncView", "[I", true)
  | 17 => ("GroupViewsModel", "cut", "[I", true)
  | 18 => ("GroupViewsModel", "heard", "[Z", true)
  | 19 => ("GroupViewsModel", "packet", "[I", true)
  | 20 => ("GroupViewsModel", "length", "[I", true)
  | 21 => ("GroupViewsModel", "limit", "[I", true)
  | _ => ("GroupViewsModel", "companions", "I", false)
def ty_MD : Nat → FieldType := fun k => match k with
  | 0 => .array .int
  | 1 => .array .int
  | 2 => .array .int
  | 3 => .array .boolean
  | 4 => .array .boolean
  | 5 => .array .int
  | 6 => .array .int
  | 7 => .array .int
  | 8 => .array .int
  | 9 => .array .int
  | 10 => .int
  | 11 => .array .int
  | 12 => .array .int
  | 13 => .array .int
  | 14 => .array .int
  | 15 => .array .boolean
  | 16 => .array .int
  | 17 => .array .int
  | 18 => .array .boolean
  | 19 => .array .int
  | 20 => .array .int
  | 21 => .array .int
  | _ => .int
theorem nm_MD : ∀ a, a < 23 → ∀ b, b < 23 → a ≠ b → (T_MD a).2.1 ≠ (T_MD b).2.1 := by decide +kernel
theorem tyo_MD : ∀ k, k < 23 → parseFieldDescriptor (T_MD k).2.2.1 = some (ty_MD k) := by decide +kernel
abbrev vcl : List vw_C := [("GroupViews", T_GV, 5), ("GroupViews$ProcessState", T_PS, 16), ("GroupViews$Line", T_LN, 3), ("GroupViewsModel", T_MD, 23)]
/-- the words that a warmed table keeps -/
def tblG : List Cond := lw_tbl.filter goodWord
theorem tblG_good : ∀ w ∈ tblG, (w.onTables && w.keeps) = true ∨ ∃ ty, w = .arrayClass ty := fun w hw => good_of_word (List.mem_filter.mp hw).2
theorem tblG_1 {i : Nat} {w : Cond} (h : tables_1_1[i]? = some w) (hg : goodWord w = true) : w ∈ tblG := List.mem_filter.mpr ⟨List.mem_append_right _ (List.mem_append_left _ (List.mem_of_getElem? h)), hg⟩
theorem tblG_2 {i : Nat} {w : Cond} (h : tables_1_2[i]? = some w) (hg : goodWord w = true) : w ∈ tblG := List.mem_filter.mpr ⟨List.mem_append_right _ (List.mem_append_right _ (List.mem_of_getElem? h)), hg⟩
theorem tbl_1 {i : Nat} {w : Cond} (h : tables_1_1[i]? = some w) : w ∈ lw_tbl := List.mem_append_right _ (List.mem_append_left _ (List.mem_of_getElem? h))
theorem tbl_2 {i : Nat} {w : Cond} (h : tables_1_2[i]? = some w) : w ∈ lw_tbl := List.mem_append_right _ (List.mem_append_right _ (List.mem_of_getElem? h))
theorem tblG_s {i : Nat} {q : MethodName × Nat} (h : lw_privs[i]? = some q) : Cond.selects q.1.cls q.1 q.1 ∈ tblG := List.mem_filter.mpr ⟨List.mem_append_left _ (List.mem_map.mpr ⟨q, List.mem_of_getElem? h, rfl⟩), rfl⟩
theorem tblG_in {w : Cond} (h : w ∈ lw_tbl) (hg : goodWord w = true) : w ∈ tblG := List.mem_filter.mpr ⟨h, hg⟩
/-- the links to private members of a nest mate -/
def tblN : List Cond := [.methodLinkNest "GroupViews" 28 y_PS_init "GroupViews", .fieldLinkNest "GroupViews" 42 "GroupViews$ProcessState" "view" "I" "GroupViews", .fieldLinkNest "GroupViews" 80 "GroupViews$ProcessState" "lastChange" "I" "GroupViews", .fieldLinkNest "GroupViews" 83 "GroupViews$ProcessState" "changeSet" "I" "GroupViews", .fieldLinkNest "GroupViews" 86 "GroupViews$ProcessState" "open" "Z" "GroupViews", .fieldLinkNest "GroupViews" 34 "GroupViews$ProcessState" "blocked" "Z" "GroupViews", .fieldLinkNest "GroupViews" 89 "GroupViews$ProcessState" "pending" "I" "GroupViews", .fieldLinkNest "GroupViews" 114 "GroupViews$ProcessState" "greatestTold" "I" "GroupViews", .fieldLinkNest "GroupViews" 38 "GroupViews$ProcessState" "sent" "I" "GroupViews", .fieldLinkNest "GroupViews" 55 "GroupViews$ProcessState" "delivered" "I" "GroupViews", .fieldLinkNest "GroupViews" 49 "GroupViews$ProcessState" "payloads" "[I" "GroupViews", .fieldLinkNest "GroupViews" 52 "GroupViews$ProcessState" "vectors" "[I" "GroupViews", .fieldLinkNest "GroupViews" 92 "GroupViews$ProcessState" "cutViews" "[I" "GroupViews", .fieldLinkNest "GroupViews" 95 "GroupViews$ProcessState" "cuts" "[I" "GroupViews", .fieldLinkNest "GroupViews" 159 "GroupViews$ProcessState" "event" "[I" "GroupViews", .methodLinkNest "GroupViews" 29 y_LN_init "GroupViews", .methodLinkNest "GroupViews" 62 y_PS_learnMessage "GroupViews", .methodLinkNest "GroupViews" 171 y_LN_put "GroupViews", .methodLinkNest "GroupViews" 98 y_PS_learnSync "GroupViews", .methodLinkNest "GroupViews" 123 y_LN_takeFirst "GroupViews", .methodLinkNest "GroupViews" 179 y_PS_knowsMessage "GroupViews", .methodLinkNest "GroupViews" 152 y_PS_setEvent "GroupViews", .methodLinkNest "GroupViews" 182 y_PS_knowsSync "GroupViews", .methodLinkNest "GroupViews" 156 y_PS_enterPending "GroupViews", .methodLinkNest "GroupViews" 165 y_PS_messagesKnownOf "GroupViews", .methodLinkNest "GroupViews" 168 y_LN_length "GroupViews"]
theorem nw_20 : Cond.methodLinkNest "GroupViews" 28 y_PS_init "GroupViews" ∈ tblN := List.mem_of_getElem? (i := 0) rfl
theorem nw_24 : Cond.fieldLinkNest "GroupViews" 42 "GroupViews$ProcessState" "view" "I" "GroupViews" ∈ tblN := List.mem_of_getElem? (i := 1) rfl
theorem nw_26 : Cond.fieldLinkNest "GroupViews" 80 "GroupViews$ProcessState" "lastChange" "I" "GroupViews" ∈ tblN := List.mem_of_getElem? (i := 2) rfl
theorem nw_27 : Cond.fieldLinkNest "GroupViews" 83 "GroupViews$ProcessState" "changeSet" "I" "GroupViews" ∈ tblN := List.mem_of_getElem? (i := 3) rfl
theorem nw_28 : Cond.fieldLinkNest "GroupViews" 86 "GroupViews$ProcessState" "open" "Z" "GroupViews" ∈ tblN := List.mem_of_getElem? (i := 4) rfl
theorem nw_29 : Cond.fieldLinkNest "GroupViews" 34 "GroupViews$ProcessState" "blocked" "Z" "GroupViews" ∈ tblN := List.mem_of_getElem? (i := 5) rfl
theorem nw_31 : Cond.fieldLinkNest "GroupViews" 89 "GroupViews$ProcessState" "pending" "I" "GroupViews" ∈ tblN := List.mem_of_getElem? (i := 6) rfl
theorem nw_33 : Cond.fieldLinkNest "GroupViews" 114 "GroupViews$ProcessState" "greatestTold" "I" "GroupViews" ∈ tblN := List.mem_of_getElem? (i := 7) rfl
theorem nw_34 : Cond.fieldLinkNest "GroupViews" 38 "GroupViews$ProcessState" "sent" "I" "GroupViews" ∈ tblN := List.mem_of_getElem? (i := 8) rfl
theorem nw_36 : Cond.fieldLinkNest "GroupViews" 55 "GroupViews$ProcessState" "delivered" "I" "GroupViews" ∈ tblN := List.mem_of_getElem? (i := 9) rfl
theorem nw_41 : Cond.fieldLinkNest "GroupViews" 49 "GroupViews$ProcessState" "payloads" "[I" "GroupViews" ∈ tblN := List.mem_of_getElem? (i := 10) rfl
theorem nw_43 : Cond.fieldLinkNest "GroupViews" 52 "GroupViews$ProcessState" "vectors" "[I" "GroupViews" ∈ tblN := List.mem_of_getElem? (i := 11) rfl
theorem nw_45 : Cond.fieldLinkNest "GroupViews" 92 "GroupViews$ProcessState" "cutViews" "[I" "GroupViews" ∈ tblN := List.mem_of_getElem? (i := 12) rfl
theorem nw_47 : Cond.fieldLinkNest "GroupViews" 95 "GroupViews$ProcessState" "cuts" "[I" "GroupViews" ∈ tblN := List.mem_of_getElem? (i := 13) rfl
theorem nw_49 : Cond.fieldLinkNest "GroupViews" 159 "GroupViews$ProcessState" "event" "[I" "GroupViews" ∈ tblN := List.mem_of_getElem? (i := 14) rfl
theorem nw_85 : Cond.methodLinkNest "GroupViews" 29 y_LN_init "GroupViews" ∈ tblN := List.mem_of_getElem? (i := 15) rfl
theorem nw_128 : Cond.methodLinkNest "GroupViews" 62 y_PS_learnMessage "GroupViews" ∈ tblN := List.mem_of_getElem? (i := 16) rfl
theorem nw_146 : Cond.methodLinkNest "GroupViews" 171 y_LN_put "GroupViews" ∈ tblN := List.mem_of_getElem? (i := 17) rfl
theorem nw_157 : Cond.methodLinkNest "GroupViews" 98 y_PS_learnSync "GroupViews" ∈ tblN := List.mem_of_getElem? (i := 18) rfl
theorem nw_187 : Cond.methodLinkNest "GroupViews" 123 y_LN_takeFirst "GroupViews" ∈ tblN := List.mem_of_getElem? (i := 19) rfl
theorem nw_217 : Cond.methodLinkNest "GroupViews" 179 y_PS_knowsMessage "GroupViews" ∈ tblN := List.mem_of_getElem? (i := 20) rfl
theorem nw_221 : Cond.methodLinkNest "GroupViews" 152 y_PS_setEvent "GroupViews" ∈ tblN := List.mem_of_getElem? (i := 21) rfl
theorem nw_229 : Cond.methodLinkNest "GroupViews" 182 y_PS_knowsSync "GroupViews" ∈ tblN := List.mem_of_getElem? (i := 22) rfl
theorem nw_247 : Cond.methodLinkNest "GroupViews" 156 y_PS_enterPending "GroupViews" ∈ tblN := List.mem_of_getElem? (i := 23) rfl
theorem nw_291 : Cond.methodLinkNest "GroupViews" 165 y_PS_messagesKnownOf "GroupViews" ∈ tblN := List.mem_of_getElem? (i := 24) rfl
theorem nw_305 : Cond.methodLinkNest "GroupViews" 168 y_LN_length "GroupViews" ∈ tblN := List.mem_of_getElem? (i := 25) rfl
theorem tblN_in : ∀ w ∈ tblN, w ∈ lw_tbl := by
  intro w hw
  simp only [tblN, List.mem_cons, List.not_mem_nil, or_false] at hw
  rcases hw with rfl | rfl | rfl | rfl | rfl | rfl | rfl | rfl | rfl | rfl | rfl | rfl | rfl | rfl | rfl | rfl | rfl | rfl | rfl | rfl | rfl | rfl | rfl | rfl | rfl | rfl
  · exact tbl_1 (i := 20) rfl
  · exact tbl_1 (i := 24) rfl
  · exact tbl_1 (i := 26) rfl
  · exact tbl_1 (i := 27) rfl
  · exact tbl_1 (i := 28) rfl
  · exact tbl_1 (i := 29) rfl
  · exact tbl_1 (i := 31) rfl
  · exact tbl_1 (i := 33) rfl
  · exact tbl_1 (i := 34) rfl
  · exact tbl_1 (i := 36) rfl
  · exact tbl_1 (i := 41) rfl
  · exact tbl_1 (i := 43) rfl
  · exact tbl_1 (i := 45) rfl
  · exact tbl_1 (i := 47) rfl
  · exact tbl_1 (i := 49) rfl
  · exact tbl_1 (i := 85) rfl
  · exact tbl_1 (i := 128) rfl
  · exact tbl_1 (i := 146) rfl
  · exact tbl_1 (i := 157) rfl
  · exact tbl_1 (i := 187) rfl
  · exact tbl_1 (i := 217) rfl
  · exact tbl_1 (i := 221) rfl
  · exact tbl_1 (i := 229) rfl
  · exact tbl_2 (i := 7) rfl
  · exact tbl_2 (i := 51) rfl
  · exact tbl_2 (i := 65) rfl
set_option maxRecDepth 20000 in
theorem t_0 : Cond.initialized "GroupViewsLaw" ∈ tblG := tblG_1 (i := 0) rfl rfl
set_option maxRecDepth 20000 in
theorem t_1 : Cond.initialized "GroupViews" ∈ tblG := tblG_1 (i := 1) rfl rfl
set_option maxRecDepth 20000 in
theorem t_2 : Cond.initialized "GroupViews$ProcessState" ∈ tblG := tblG_1 (i := 2) rfl rfl
set_option maxRecDepth 20000 in
theorem t_3 : Cond.initialized "GroupViews$Line" ∈ tblG := tblG_1 (i := 3) rfl rfl
set_option maxRecDepth 20000 in
theorem t_4 : Cond.initialized "GroupViewsModel" ∈ tblG := tblG_1 (i := 4) rfl rfl
set_option maxRecDepth 20000 in
theorem t_5 : Cond.initialized "java/lang/Math" ∈ tblG := tblG_1 (i := 5) rfl rfl
set_option maxRecDepth 20000 in
theorem t_6 : Cond.initialized "java/lang/Integer" ∈ tblG := tblG_1 (i := 6) rfl rfl
set_option maxRecDepth 20000 in
theorem t_7 : Cond.classLink "GroupViewsLaw" 7 "GroupViews" ∈ tblG := tblG_1 (i := 7) rfl rfl
set_option maxRecDepth 20000 in
theorem t_8 : Cond.instantiable "GroupViews" 5 ∈ tblG := tblG_1 (i := 8) rfl rfl
set_option maxRecDepth 20000 in
theorem t_9 : Cond.methodLink "GroupViewsLaw" 9 y_GV_init ∈ tblG := tblG_1 (i := 9) rfl rfl
set_option maxRecDepth 20000 in
theorem t_10 : Cond.instanceMethod y_GV_init ∈ tblG := tblG_1 (i := 10) rfl rfl
set_option maxRecDepth 20000 in
theorem t_11 : Cond.code y_GV_init c_GV_init 2 none ∈ tblG := tblG_1 (i := 11) rfl rfl
set_option maxRecDepth 20000 in
theorem t_12 : Cond.methodLink "GroupViews" 3 objectInit ∈ tblG := tblG_1 (i := 12) rfl rfl
set_option maxRecDepth 20000 in
theorem t_13 : Cond.instanceMethod objectInit ∈ tblG := tblG_1 (i := 13) rfl rfl
set_option maxRecDepth 20000 in
theorem t_14 : Cond.code objectInit ⟨#[0xb1]⟩ 1 none ∈ tblG := tblG_1 (i := 14) rfl rfl
set_option maxRecDepth 20000 in
theorem t_15 : Cond.classLink "GroupViews" 9 "GroupViews$ProcessState" ∈ tblG := tblG_1 (i := 15) rfl rfl
theorem tx_16 : Cond.arrayOver (.object "GroupViews$ProcessState") ∈ lw_tbl := tbl_1 (i := 16) rfl
set_option maxRecDepth 20000 in
theorem t_17 : Cond.classLink "GroupViews" 15 "GroupViews$Line" ∈ tblG := tblG_1 (i := 17) rfl rfl
theorem tx_18 : Cond.arrayOver (.object "GroupViews$Line") ∈ lw_tbl := tbl_1 (i := 18) rfl
set_option maxRecDepth 20000 in
theorem t_19 : Cond.instantiable "GroupViews$ProcessState" 16 ∈ tblG := tblG_1 (i := 19) rfl rfl
set_option maxRecDepth 20000 in
theorem t_21 : Cond.instanceMethod y_PS_init ∈ tblG := tblG_1 (i := 21) rfl rfl
set_option maxRecDepth 20000 in
theorem t_22 : Cond.code y_PS_init c_PS_init 1 none ∈ tblG := tblG_1 (i := 22) rfl rfl
set_option maxRecDepth 20000 in
theorem t_23 : Cond.methodLink "GroupViews$ProcessState" 3 objectInit ∈ tblG := tblG_1 (i := 23) rfl rfl
set_option maxRecDepth 20000 in
theorem t_25 : Cond.fieldLink "GroupViews$ProcessState" 33 "GroupViews$ProcessState" "view" "I" ∈ tblG := tblG_1 (i := 25) rfl rfl
set_option maxRecDepth 20000 in
theorem t_30 : Cond.fieldLink "GroupViews$ProcessState" 46 "GroupViews$ProcessState" "blocked" "Z" ∈ tblG := tblG_1 (i := 30) rfl rfl
set_option maxRecDepth 20000 in
theorem t_32 : Cond.fieldLink "GroupViews$ProcessState" 43 "GroupViews$ProcessState" "pending" "I" ∈ tblG := tblG_1 (i := 32) rfl rfl
set_option maxRecDepth 20000 in
theorem t_35 : Cond.fieldLink "GroupViews$ProcessState" 50 "GroupViews$ProcessState" "sent" "I" ∈ tblG := tblG_1 (i := 35) rfl rfl
set_option maxRecDepth 20000 in
theorem t_37 : Cond.fieldLink "GroupViews$ProcessState" 53 "GroupViews$ProcessState" "delivered" "I" ∈ tblG := tblG_1 (i := 37) rfl rfl
set_option maxRecDepth 20000 in
theorem t_38 : Cond.fieldLink "GroupViews$ProcessState" 9 "GroupViews$ProcessState" "knownNumbers" "[I" ∈ tblG := tblG_1 (i := 38) rfl rfl
set_option maxRecDepth 20000 in
theorem t_39 : Cond.fieldLink "GroupViews$ProcessState" 15 "GroupViews$ProcessState" "knownChanges" "[I" ∈ tblG := tblG_1 (i := 39) rfl rfl
set_option maxRecDepth 20000 in
theorem t_40 : Cond.fieldLink "GroupViews$ProcessState" 18 "GroupViews$ProcessState" "payloads" "[I" ∈ tblG := tblG_1 (i := 40) rfl rfl
set_option maxRecDepth 20000 in
theorem t_42 : Cond.fieldLink "GroupViews$ProcessState" 21 "GroupViews$ProcessState" "vectors" "[I" ∈ tblG := tblG_1 (i := 42) rfl rfl
set_option maxRecDepth 20000 in
theorem t_44 : Cond.fieldLink "GroupViews$ProcessState" 24 "GroupViews$ProcessState" "cutViews" "[I" ∈ tblG := tblG_1 (i := 44) rfl rfl
set_option maxRecDepth 20000 in
theorem t_46 : Cond.fieldLink "GroupViews$ProcessState" 27 "GroupViews$ProcessState" "cuts" "[I" ∈ tblG := tblG_1 (i := 46) rfl rfl
set_option maxRecDepth 20000 in
theorem t_48 : Cond.fieldLink "GroupViews$ProcessState" 30 "GroupViews$ProcessState" "event" "[I" ∈ tblG := tblG_1 (i := 48) rfl rfl
set_option maxRecDepth 20000 in
theorem t_83 : Cond.arrayClass .int ∈ tblG := tblG_1 (i := 83) rfl rfl
set_option maxRecDepth 20000 in
theorem t_84 : Cond.instantiable "GroupViews$Line" 3 ∈ tblG := tblG_1 (i := 84) rfl rfl
set_option maxRecDepth 20000 in
theorem t_86 : Cond.instanceMethod y_LN_init ∈ tblG := tblG_1 (i := 86) rfl rfl
set_option maxRecDepth 20000 in
theorem t_87 : Cond.code y_LN_init c_LN_init 1 none ∈ tblG := tblG_1 (i := 87) rfl rfl
set_option maxRecDepth 20000 in
theorem t_88 : Cond.methodLink "GroupViews$Line" 3 objectInit ∈ tblG := tblG_1 (i := 88) rfl rfl
set_option maxRecDepth 20000 in
theorem t_89 : Cond.fieldLink "GroupViews$Line" 9 "GroupViews$Line" "packets" "[I" ∈ tblG := tblG_1 (i := 89) rfl rfl
set_option maxRecDepth 20000 in
theorem t_90 : Cond.fieldLink "GroupViews$Line" 19 "GroupViews$Line" "first" "I" ∈ tblG := tblG_1 (i := 90) rfl rfl
set_option maxRecDepth 20000 in
theorem t_91 : Cond.fieldLink "GroupViews$Line" 15 "GroupViews$Line" "end" "I" ∈ tblG := tblG_1 (i := 91) rfl rfl
set_option maxRecDepth 20000 in
theorem t_99 : Cond.fieldLink "GroupViews" 11 "GroupViews" "processes" "[LGroupViews$ProcessState;" ∈ tblG := tblG_1 (i := 99) rfl rfl
set_option maxRecDepth 20000 in
theorem t_100 : Cond.fieldLink "GroupViews" 17 "GroupViews" "lines" "[LGroupViews$Line;" ∈ tblG := tblG_1 (i := 100) rfl rfl
set_option maxRecDepth 20000 in
theorem t_101 : Cond.fieldLink "GroupViews" 21 "GroupViews" "sets" "[I" ∈ tblG := tblG_1 (i := 101) rfl rfl
set_option maxRecDepth 20000 in
theorem t_102 : Cond.fieldLink "GroupViews" 25 "GroupViews" "starts" "[I" ∈ tblG := tblG_1 (i := 102) rfl rfl
set_option maxRecDepth 20000 in
theorem t_103 : Cond.fieldLink "GroupViews" 102 "GroupViews" "formed" "I" ∈ tblG := tblG_1 (i := 103) rfl rfl
set_option maxRecDepth 20000 in
theorem t_115 : Cond.methodLink "GroupViewsLaw" 13 y_GV_send ∈ tblG := tblG_1 (i := 115) rfl rfl
set_option maxRecDepth 20000 in
theorem t_116 : Cond.instanceMethod y_GV_send ∈ tblG := tblG_1 (i := 116) rfl rfl
set_option maxRecDepth 20000 in
theorem t_117 : Cond.selects "GroupViews" y_GV_send y_GV_send ∈ tblG := tblG_1 (i := 117) rfl rfl
set_option maxRecDepth 20000 in
theorem t_118 : Cond.code y_GV_send c_GV_send 5 (some .int) ∈ tblG := tblG_1 (i := 118) rfl rfl
set_option maxRecDepth 20000 in
theorem t_119 : Cond.methodLink "GroupViews" 30 y_GV_isProcess ∈ tblG := tblG_1 (i := 119) rfl rfl
set_option maxRecDepth 20000 in
theorem t_120 : Cond.static y_GV_isProcess ∈ tblG := tblG_1 (i := 120) rfl rfl
set_option maxRecDepth 20000 in
theorem t_121 : Cond.code y_GV_isProcess c_GV_isProcess 1 (some .boolean) ∈ tblG := tblG_1 (i := 121) rfl rfl
set_option maxRecDepth 20000 in
theorem t_122 : Cond.methodLink "GroupViews" 45 y_GV_slotOf ∈ tblG := tblG_1 (i := 122) rfl rfl
set_option maxRecDepth 20000 in
theorem t_123 : Cond.static y_GV_slotOf ∈ tblG := tblG_1 (i := 123) rfl rfl
set_option maxRecDepth 20000 in
theorem t_124 : Cond.code y_GV_slotOf c_GV_slotOf 2 (some .int) ∈ tblG := tblG_1 (i := 124) rfl rfl
set_option maxRecDepth 20000 in
theorem t_125 : Cond.methodLink "GroupViews" 58 y_GV_withCount ∈ tblG := tblG_1 (i := 125) rfl rfl
set_option maxRecDepth 20000 in
theorem t_126 : Cond.static y_GV_withCount ∈ tblG := tblG_1 (i := 126) rfl rfl
set_option maxRecDepth 20000 in
theorem t_127 : Cond.code y_GV_withCount c_GV_withCount 4 (some .int) ∈ tblG := tblG_1 (i := 127) rfl rfl
set_option maxRecDepth 20000 in
theorem t_130 : Cond.instanceMethod y_PS_learnMessage ∈ tblG := tblG_1 (i := 130) rfl rfl
set_option maxRecDepth 20000 in
theorem t_131 : Cond.code y_PS_learnMessage c_PS_learnMessage 4 none ∈ tblG := tblG_1 (i := 131) rfl rfl
set_option maxRecDepth 20000 in
theorem t_132 : Cond.methodLink "GroupViews" 66 y_GV_presentSet ∈ tblG := tblG_1 (i := 132) rfl rfl
set_option maxRecDepth 20000 in
theorem t_134 : Cond.instanceMethod y_GV_presentSet ∈ tblG := tblG_1 (i := 134) rfl rfl
set_option maxRecDepth 20000 in
theorem t_135 : Cond.code y_GV_presentSet c_GV_presentSet 3 (some .int) ∈ tblG := tblG_1 (i := 135) rfl rfl
set_option maxRecDepth 20000 in
theorem t_136 : Cond.methodLink "GroupViews" 70 y_GV_putToOthers ∈ tblG := tblG_1 (i := 136) rfl rfl
set_option maxRecDepth 20000 in
theorem t_138 : Cond.instanceMethod y_GV_putToOthers ∈ tblG := tblG_1 (i := 138) rfl rfl
set_option maxRecDepth 20000 in
theorem t_139 : Cond.code y_GV_putToOthers c_GV_putToOthers 5 none ∈ tblG := tblG_1 (i := 139) rfl rfl
set_option maxRecDepth 20000 in
theorem t_140 : Cond.methodLink "GroupViews" 76 y_GV_has ∈ tblG := tblG_1 (i := 140) rfl rfl
set_option maxRecDepth 20000 in
theorem t_141 : Cond.static y_GV_has ∈ tblG := tblG_1 (i := 141) rfl rfl
set_option maxRecDepth 20000 in
theorem t_142 : Cond.code y_GV_has c_GV_has 2 (some .boolean) ∈ tblG := tblG_1 (i := 142) rfl rfl
set_option maxRecDepth 20000 in
theorem t_143 : Cond.methodLink "GroupViews" 120 y_GV_lineIndex ∈ tblG := tblG_1 (i := 143) rfl rfl
set_option maxRecDepth 20000 in
theorem t_144 : Cond.static y_GV_lineIndex ∈ tblG := tblG_1 (i := 144) rfl rfl
set_option maxRecDepth 20000 in
theorem t_145 : Cond.code y_GV_lineIndex c_GV_lineIndex 2 (some .int) ∈ tblG := tblG_1 (i := 145) rfl rfl
set_option maxRecDepth 20000 in
theorem t_148 : Cond.instanceMethod y_LN_put ∈ tblG := tblG_1 (i := 148) rfl rfl
set_option maxRecDepth 20000 in
theorem t_149 : Cond.code y_LN_put c_LN_put 2 none ∈ tblG := tblG_1 (i := 149) rfl rfl
set_option maxRecDepth 20000 in
theorem t_150 : Cond.methodLink "GroupViewsLaw" 18 y_GV_change ∈ tblG := tblG_1 (i := 150) rfl rfl
set_option maxRecDepth 20000 in
theorem t_151 : Cond.instanceMethod y_GV_change ∈ tblG := tblG_1 (i := 151) rfl rfl
set_option maxRecDepth 20000 in
theorem t_152 : Cond.selects "GroupViews" y_GV_change y_GV_change ∈ tblG := tblG_1 (i := 152) rfl rfl
set_option maxRecDepth 20000 in
theorem t_153 : Cond.code y_GV_change c_GV_change 4 (some .int) ∈ tblG := tblG_1 (i := 153) rfl rfl
set_option maxRecDepth 20000 in
theorem t_154 : Cond.methodLink "GroupViews" 73 y_GV_isNonEmptySet ∈ tblG := tblG_1 (i := 154) rfl rfl
set_option maxRecDepth 20000 in
theorem t_155 : Cond.static y_GV_isNonEmptySet ∈ tblG := tblG_1 (i := 155) rfl rfl
set_option maxRecDepth 20000 in
theorem t_156 : Cond.code y_GV_isNonEmptySet c_GV_isNonEmptySet 1 (some .boolean) ∈ tblG := tblG_1 (i := 156) rfl rfl
set_option maxRecDepth 20000 in
theorem t_159 : Cond.instanceMethod y_PS_learnSync ∈ tblG := tblG_1 (i := 159) rfl rfl
set_option maxRecDepth 20000 in
theorem t_160 : Cond.code y_PS_learnSync c_PS_learnSync 3 none ∈ tblG := tblG_1 (i := 160) rfl rfl
set_option maxRecDepth 20000 in
theorem t_161 : Cond.methodLink "GroupViewsLaw" 22 y_GV_form ∈ tblG := tblG_1 (i := 161) rfl rfl
set_option maxRecDepth 20000 in
theorem t_162 : Cond.instanceMethod y_GV_form ∈ tblG := tblG_1 (i := 162) rfl rfl
set_option maxRecDepth 20000 in
theorem t_163 : Cond.selects "GroupViews" y_GV_form y_GV_form ∈ tblG := tblG_1 (i := 163) rfl rfl
set_option maxRecDepth 20000 in
theorem t_164 : Cond.code y_GV_form c_GV_form 3 (some .int) ∈ tblG := tblG_1 (i := 164) rfl rfl
set_option maxRecDepth 20000 in
theorem t_165 : Cond.methodLink "GroupViews" 105 y_GV_canForm ∈ tblG := tblG_1 (i := 165) rfl rfl
set_option maxRecDepth 20000 in
theorem t_167 : Cond.instanceMethod y_GV_canForm ∈ tblG := tblG_1 (i := 167) rfl rfl
set_option maxRecDepth 20000 in
theorem t_168 : Cond.code y_GV_canForm c_GV_canForm 3 (some .boolean) ∈ tblG := tblG_1 (i := 168) rfl rfl
set_option maxRecDepth 20000 in
theorem t_169 : Cond.methodLink "GroupViews" 108 y_GV_startIndex ∈ tblG := tblG_1 (i := 169) rfl rfl
set_option maxRecDepth 20000 in
theorem t_170 : Cond.static y_GV_startIndex ∈ tblG := tblG_1 (i := 170) rfl rfl
set_option maxRecDepth 20000 in
theorem t_171 : Cond.code y_GV_startIndex c_GV_startIndex 2 (some .int) ∈ tblG := tblG_1 (i := 171) rfl rfl
set_option maxRecDepth 20000 in
theorem t_172 : Cond.methodLink "GroupViewsLaw" 27 y_GV_tell ∈ tblG := tblG_1 (i := 172) rfl rfl
set_option maxRecDepth 20000 in
theorem t_173 : Cond.instanceMethod y_GV_tell ∈ tblG := tblG_1 (i := 173) rfl rfl
set_option maxRecDepth 20000 in
theorem t_174 : Cond.selects "GroupViews" y_GV_tell y_GV_tell ∈ tblG := tblG_1 (i := 174) rfl rfl
set_option maxRecDepth 20000 in
theorem t_175 : Cond.code y_GV_tell c_GV_tell 4 (some .int) ∈ tblG := tblG_1 (i := 175) rfl rfl
set_option maxRecDepth 20000 in
theorem t_176 : Cond.methodLink "GroupViews" 111 y_GV_isFormed ∈ tblG := tblG_1 (i := 176) rfl rfl
set_option maxRecDepth 20000 in
theorem t_178 : Cond.instanceMethod y_GV_isFormed ∈ tblG := tblG_1 (i := 178) rfl rfl
set_option maxRecDepth 20000 in
theorem t_179 : Cond.code y_GV_isFormed c_GV_isFormed 2 (some .boolean) ∈ tblG := tblG_1 (i := 179) rfl rfl
set_option maxRecDepth 20000 in
theorem t_180 : Cond.methodLink "GroupViewsLaw" 31 y_GV_carry ∈ tblG := tblG_1 (i := 180) rfl rfl
set_option maxRecDepth 20000 in
theorem t_181 : Cond.instanceMethod y_GV_carry ∈ tblG := tblG_1 (i := 181) rfl rfl
set_option maxRecDepth 20000 in
theorem t_182 : Cond.selects "GroupViews" y_GV_carry y_GV_carry ∈ tblG := tblG_1 (i := 182) rfl rfl
set_option maxRecDepth 20000 in
theorem t_183 : Cond.code y_GV_carry c_GV_carry 4 (some .int) ∈ tblG := tblG_1 (i := 183) rfl rfl
set_option maxRecDepth 20000 in
theorem t_184 : Cond.methodLink "GroupViews" 117 y_GV_isLine ∈ tblG := tblG_1 (i := 184) rfl rfl
set_option maxRecDepth 20000 in
theorem t_185 : Cond.static y_GV_isLine ∈ tblG := tblG_1 (i := 185) rfl rfl
set_option maxRecDepth 20000 in
theorem t_186 : Cond.code y_GV_isLine c_GV_isLine 2 (some .boolean) ∈ tblG := tblG_1 (i := 186) rfl rfl
set_option maxRecDepth 20000 in
theorem t_189 : Cond.instanceMethod y_LN_takeFirst ∈ tblG := tblG_1 (i := 189) rfl rfl
set_option maxRecDepth 20000 in
theorem t_190 : Cond.code y_LN_takeFirst c_LN_takeFirst 2 (some .int) ∈ tblG := tblG_1 (i := 190) rfl rfl
set_option maxRecDepth 20000 in
theorem t_191 : Cond.methodLink "GroupViews" 127 y_GV_viewOfSlot ∈ tblG := tblG_1 (i := 191) rfl rfl
set_option maxRecDepth 20000 in
theorem t_192 : Cond.static y_GV_viewOfSlot ∈ tblG := tblG_1 (i := 192) rfl rfl
set_option maxRecDepth 20000 in
theorem t_193 : Cond.code y_GV_viewOfSlot c_GV_viewOfSlot 1 (some .int) ∈ tblG := tblG_1 (i := 193) rfl rfl
set_option maxRecDepth 20000 in
theorem t_194 : Cond.methodLink "GroupViews" 130 y_GV_numberOfSlot ∈ tblG := tblG_1 (i := 194) rfl rfl
set_option maxRecDepth 20000 in
theorem t_195 : Cond.static y_GV_numberOfSlot ∈ tblG := tblG_1 (i := 195) rfl rfl
set_option maxRecDepth 20000 in
theorem t_196 : Cond.code y_GV_numberOfSlot c_GV_numberOfSlot 1 (some .int) ∈ tblG := tblG_1 (i := 196) rfl rfl
set_option maxRecDepth 20000 in
theorem t_197 : Cond.methodLink "GroupViews" 133 y_GV_receiveSync ∈ tblG := tblG_1 (i := 197) rfl rfl
set_option maxRecDepth 20000 in
theorem t_199 : Cond.instanceMethod y_GV_receiveSync ∈ tblG := tblG_1 (i := 199) rfl rfl
set_option maxRecDepth 20000 in
theorem t_200 : Cond.code y_GV_receiveSync c_GV_receiveSync 8 none ∈ tblG := tblG_1 (i := 200) rfl rfl
set_option maxRecDepth 20000 in
theorem t_201 : Cond.methodLink "GroupViews" 162 y_GV_countOf ∈ tblG := tblG_1 (i := 201) rfl rfl
set_option maxRecDepth 20000 in
theorem t_202 : Cond.static y_GV_countOf ∈ tblG := tblG_1 (i := 202) rfl rfl
set_option maxRecDepth 20000 in
theorem t_203 : Cond.code y_GV_countOf c_GV_countOf 2 (some .int) ∈ tblG := tblG_1 (i := 203) rfl rfl
set_option maxRecDepth 20000 in
theorem t_204 : Cond.methodLink "GroupViewsLaw" 35 y_GV_step ∈ tblG := tblG_1 (i := 204) rfl rfl
set_option maxRecDepth 20000 in
theorem t_205 : Cond.instanceMethod y_GV_step ∈ tblG := tblG_1 (i := 205) rfl rfl
set_option maxRecDepth 20000 in
theorem t_206 : Cond.selects "GroupViews" y_GV_step y_GV_step ∈ tblG := tblG_1 (i := 206) rfl rfl
set_option maxRecDepth 20000 in
theorem t_207 : Cond.code y_GV_step c_GV_step 6 (some .int) ∈ tblG := tblG_1 (i := 207) rfl rfl
set_option maxRecDepth 20000 in
theorem t_208 : Cond.constant "GroupViews" 137 (67372036) ∈ tblG := tblG_1 (i := 208) rfl rfl
set_option maxRecDepth 20000 in
theorem t_209 : Cond.methodLink "GroupViews" 138 y_GV_deliverOne ∈ tblG := tblG_1 (i := 209) rfl rfl
set_option maxRecDepth 20000 in
theorem t_211 : Cond.instanceMethod y_GV_deliverOne ∈ tblG := tblG_1 (i := 211) rfl rfl
set_option maxRecDepth 20000 in
theorem t_212 : Cond.code y_GV_deliverOne c_GV_deliverOne 6 (some .int) ∈ tblG := tblG_1 (i := 212) rfl rfl
set_option maxRecDepth 20000 in
theorem t_213 : Cond.methodLink "GroupViews" 175 y_GV_isDeliverable ∈ tblG := tblG_1 (i := 213) rfl rfl
set_option maxRecDepth 20000 in
theorem t_215 : Cond.instanceMethod y_GV_isDeliverable ∈ tblG := tblG_1 (i := 215) rfl rfl
set_option maxRecDepth 20000 in
theorem t_216 : Cond.code y_GV_isDeliverable c_GV_isDeliverable 7 (some .boolean) ∈ tblG := tblG_1 (i := 216) rfl rfl
set_option maxRecDepth 20000 in
theorem t_219 : Cond.instanceMethod y_PS_knowsMessage ∈ tblG := tblG_1 (i := 219) rfl rfl
set_option maxRecDepth 20000 in
theorem t_220 : Cond.code y_PS_knowsMessage c_PS_knowsMessage 3 (some .boolean) ∈ tblG := tblG_1 (i := 220) rfl rfl
set_option maxRecDepth 20000 in
theorem t_223 : Cond.instanceMethod y_PS_setEvent ∈ tblG := tblG_1 (i := 223) rfl rfl
set_option maxRecDepth 20000 in
theorem t_224 : Cond.code y_PS_setEvent c_PS_setEvent 5 none ∈ tblG := tblG_1 (i := 224) rfl rfl
set_option maxRecDepth 20000 in
theorem t_225 : Cond.methodLink "GroupViews" 142 y_GV_isReady ∈ tblG := tblG_1 (i := 225) rfl rfl
set_option maxRecDepth 20000 in
theorem t_227 : Cond.instanceMethod y_GV_isReady ∈ tblG := tblG_1 (i := 227) rfl rfl
set_option maxRecDepth 20000 in
theorem t_228 : Cond.code y_GV_isReady c_GV_isReady 4 (some .boolean) ∈ tblG := tblG_1 (i := 228) rfl rfl
set_option maxRecDepth 20000 in
theorem t_231 : Cond.instanceMethod y_PS_knowsSync ∈ tblG := tblG_1 (i := 231) rfl rfl
set_option maxRecDepth 20000 in
theorem t_232 : Cond.code y_PS_knowsSync c_PS_knowsSync 3 (some .boolean) ∈ tblG := tblG_1 (i := 232) rfl rfl
set_option maxRecDepth 20000 in
theorem t_233 : Cond.methodLink "GroupViews" 146 y_GV_companionsAmong ∈ tblG := tblG_1 (i := 233) rfl rfl
set_option maxRecDepth 20000 in
theorem t_235 : Cond.instanceMethod y_GV_companionsAmong ∈ tblG := tblG_1 (i := 235) rfl rfl
set_option maxRecDepth 20000 in
theorem t_236 : Cond.code y_GV_companionsAmong c_GV_companionsAmong 6 (some .int) ∈ tblG := tblG_1 (i := 236) rfl rfl
set_option maxRecDepth 20000 in
theorem t_237 : Cond.methodLink "GroupViews" 149 y_GV_limitsOf ∈ tblG := tblG_1 (i := 237) rfl rfl
set_option maxRecDepth 20000 in
theorem t_239 : Cond.instanceMethod y_GV_limitsOf ∈ tblG := tblG_1 (i := 239) rfl rfl
set_option maxRecDepth 20000 in
theorem t_240 : Cond.code y_GV_limitsOf c_GV_limitsOf 5 (some .int) ∈ tblG := tblG_2 (i := 0) rfl rfl
set_option maxRecDepth 20000 in
theorem t_241 : Cond.methodLink "GroupViews" 185 y_GV_greatestOfEach ∈ tblG := tblG_2 (i := 1) rfl rfl
set_option maxRecDepth 20000 in
theorem t_242 : Cond.static y_GV_greatestOfEach ∈ tblG := tblG_2 (i := 2) rfl rfl
set_option maxRecDepth 20000 in
theorem t_243 : Cond.code y_GV_greatestOfEach c_GV_greatestOfEach 4 (some .int) ∈ tblG := tblG_2 (i := 3) rfl rfl
set_option maxRecDepth 20000 in
theorem t_244 : Cond.methodLink "GroupViews" 188 y_MA_max ∈ tblG := tblG_2 (i := 4) rfl rfl
set_option maxRecDepth 20000 in
theorem t_245 : Cond.static y_MA_max ∈ tblG := tblG_2 (i := 5) rfl rfl
set_option maxRecDepth 20000 in
theorem t_246 : Cond.code y_MA_max c_MA_max 2 (some .int) ∈ tblG := tblG_2 (i := 6) rfl rfl
set_option maxRecDepth 20000 in
theorem t_249 : Cond.instanceMethod y_PS_enterPending ∈ tblG := tblG_2 (i := 9) rfl rfl
set_option maxRecDepth 20000 in
theorem t_250 : Cond.code y_PS_enterPending c_PS_enterPending 1 none ∈ tblG := tblG_2 (i := 10) rfl rfl
set_option maxRecDepth 20000 in
theorem t_251 : Cond.methodLink "GroupViewsLaw" 39 y_GV_event ∈ tblG := tblG_2 (i := 11) rfl rfl
set_option maxRecDepth 20000 in
theorem t_252 : Cond.instanceMethod y_GV_event ∈ tblG := tblG_2 (i := 12) rfl rfl
set_option maxRecDepth 20000 in
theorem t_253 : Cond.selects "GroupViews" y_GV_event y_GV_event ∈ tblG := tblG_2 (i := 13) rfl rfl
set_option maxRecDepth 20000 in
theorem t_254 : Cond.code y_GV_event c_GV_event 3 (some .int) ∈ tblG := tblG_2 (i := 14) rfl rfl
set_option maxRecDepth 20000 in
theorem t_255 : Cond.methodLink "GroupViewsLaw" 43 y_GV_view ∈ tblG := tblG_2 (i := 15) rfl rfl
set_option maxRecDepth 20000 in
theorem t_256 : Cond.instanceMethod y_GV_view ∈ tblG := tblG_2 (i := 16) rfl rfl
set_option maxRecDepth 20000 in
theorem t_257 : Cond.selects "GroupViews" y_GV_view y_GV_view ∈ tblG := tblG_2 (i := 17) rfl rfl
set_option maxRecDepth 20000 in
theorem t_258 : Cond.code y_GV_view c_GV_view 2 (some .int) ∈ tblG := tblG_2 (i := 18) rfl rfl
set_option maxRecDepth 20000 in
theorem t_259 : Cond.methodLink "GroupViewsLaw" 47 y_GV_members ∈ tblG := tblG_2 (i := 19) rfl rfl
set_option maxRecDepth 20000 in
theorem t_260 : Cond.instanceMethod y_GV_members ∈ tblG := tblG_2 (i := 20) rfl rfl
set_option maxRecDepth 20000 in
theorem t_261 : Cond.selects "GroupViews" y_GV_members y_GV_members ∈ tblG := tblG_2 (i := 21) rfl rfl
set_option maxRecDepth 20000 in
theorem t_262 : Cond.code y_GV_members c_GV_members 2 (some .int) ∈ tblG := tblG_2 (i := 22) rfl rfl
set_option maxRecDepth 20000 in
theorem t_263 : Cond.methodLink "GroupViewsLaw" 51 y_GV_start ∈ tblG := tblG_2 (i := 23) rfl rfl
set_option maxRecDepth 20000 in
theorem t_264 : Cond.instanceMethod y_GV_start ∈ tblG := tblG_2 (i := 24) rfl rfl
set_option maxRecDepth 20000 in
theorem t_265 : Cond.selects "GroupViews" y_GV_start y_GV_start ∈ tblG := tblG_2 (i := 25) rfl rfl
set_option maxRecDepth 20000 in
theorem t_266 : Cond.code y_GV_start c_GV_start 3 (some .int) ∈ tblG := tblG_2 (i := 26) rfl rfl
set_option maxRecDepth 20000 in
theorem t_267 : Cond.methodLink "GroupViewsLaw" 55 y_GV_blocked ∈ tblG := tblG_2 (i := 27) rfl rfl
set_option maxRecDepth 20000 in
theorem t_268 : Cond.instanceMethod y_GV_blocked ∈ tblG := tblG_2 (i := 28) rfl rfl
set_option maxRecDepth 20000 in
theorem t_269 : Cond.selects "GroupViews" y_GV_blocked y_GV_blocked ∈ tblG := tblG_2 (i := 29) rfl rfl
set_option maxRecDepth 20000 in
theorem t_270 : Cond.code y_GV_blocked c_GV_blocked 2 (some .boolean) ∈ tblG := tblG_2 (i := 30) rfl rfl
set_option maxRecDepth 20000 in
theorem t_271 : Cond.methodLink "GroupViewsLaw" 60 y_GV_pending ∈ tblG := tblG_2 (i := 31) rfl rfl
set_option maxRecDepth 20000 in
theorem t_272 : Cond.instanceMethod y_GV_pending ∈ tblG := tblG_2 (i := 32) rfl rfl
set_option maxRecDepth 20000 in
theorem t_273 : Cond.selects "GroupViews" y_GV_pending y_GV_pending ∈ tblG := tblG_2 (i := 33) rfl rfl
set_option maxRecDepth 20000 in
theorem t_274 : Cond.code y_GV_pending c_GV_pending 2 (some .int) ∈ tblG := tblG_2 (i := 34) rfl rfl
set_option maxRecDepth 20000 in
theorem t_275 : Cond.methodLink "GroupViewsLaw" 64 y_GV_changes ∈ tblG := tblG_2 (i := 35) rfl rfl
set_option maxRecDepth 20000 in
theorem t_276 : Cond.instanceMethod y_GV_changes ∈ tblG := tblG_2 (i := 36) rfl rfl
set_option maxRecDepth 20000 in
theorem t_277 : Cond.selects "GroupViews" y_GV_changes y_GV_changes ∈ tblG := tblG_2 (i := 37) rfl rfl
set_option maxRecDepth 20000 in
theorem t_278 : Cond.code y_GV_changes c_GV_changes 2 (some .int) ∈ tblG := tblG_2 (i := 38) rfl rfl
set_option maxRecDepth 20000 in
theorem t_279 : Cond.methodLink "GroupViewsLaw" 68 y_GV_sent ∈ tblG := tblG_2 (i := 39) rfl rfl
set_option maxRecDepth 20000 in
theorem t_280 : Cond.instanceMethod y_GV_sent ∈ tblG := tblG_2 (i := 40) rfl rfl
set_option maxRecDepth 20000 in
theorem t_281 : Cond.selects "GroupViews" y_GV_sent y_GV_sent ∈ tblG := tblG_2 (i := 41) rfl rfl
set_option maxRecDepth 20000 in
theorem t_282 : Cond.code y_GV_sent c_GV_sent 2 (some .int) ∈ tblG := tblG_2 (i := 42) rfl rfl
set_option maxRecDepth 20000 in
theorem t_283 : Cond.methodLink "GroupViewsLaw" 72 y_GV_delivered ∈ tblG := tblG_2 (i := 43) rfl rfl
set_option maxRecDepth 20000 in
theorem t_284 : Cond.instanceMethod y_GV_delivered ∈ tblG := tblG_2 (i := 44) rfl rfl
set_option maxRecDepth 20000 in
theorem t_285 : Cond.selects "GroupViews" y_GV_delivered y_GV_delivered ∈ tblG := tblG_2 (i := 45) rfl rfl
set_option maxRecDepth 20000 in
theorem t_286 : Cond.code y_GV_delivered c_GV_delivered 3 (some .int) ∈ tblG := tblG_2 (i := 46) rfl rfl
set_option maxRecDepth 20000 in
theorem t_287 : Cond.methodLink "GroupViewsLaw" 76 y_GV_known ∈ tblG := tblG_2 (i := 47) rfl rfl
set_option maxRecDepth 20000 in
theorem t_288 : Cond.instanceMethod y_GV_known ∈ tblG := tblG_2 (i := 48) rfl rfl
set_option maxRecDepth 20000 in
theorem t_289 : Cond.selects "GroupViews" y_GV_known y_GV_known ∈ tblG := tblG_2 (i := 49) rfl rfl
set_option maxRecDepth 20000 in
theorem t_290 : Cond.code y_GV_known c_GV_known 3 (some .int) ∈ tblG := tblG_2 (i := 50) rfl rfl
set_option maxRecDepth 20000 in
theorem t_293 : Cond.instanceMethod y_PS_messagesKnownOf ∈ tblG := tblG_2 (i := 53) rfl rfl
set_option maxRecDepth 20000 in
theorem t_294 : Cond.code y_PS_messagesKnownOf c_PS_messagesKnownOf 2 (some .int) ∈ tblG := tblG_2 (i := 54) rfl rfl
set_option maxRecDepth 20000 in
theorem t_295 : Cond.methodLink "GroupViews$ProcessState" 37 y_IN_bitCount ∈ tblG := tblG_2 (i := 55) rfl rfl
set_option maxRecDepth 20000 in
theorem t_296 : Cond.static y_IN_bitCount ∈ tblG := tblG_2 (i := 56) rfl rfl
set_option maxRecDepth 20000 in
theorem t_297 : Cond.code y_IN_bitCount c_IN_bitCount 1 (some .int) ∈ tblG := tblG_2 (i := 57) rfl rfl
set_option maxRecDepth 20000 in
theorem t_298 : Cond.constant "java/lang/Integer" 265 (1431655765) ∈ tblG := tblG_2 (i := 58) rfl rfl
set_option maxRecDepth 20000 in
theorem t_299 : Cond.constant "java/lang/Integer" 266 (858993459) ∈ tblG := tblG_2 (i := 59) rfl rfl
set_option maxRecDepth 20000 in
theorem t_300 : Cond.constant "java/lang/Integer" 267 (252645135) ∈ tblG := tblG_2 (i := 60) rfl rfl
set_option maxRecDepth 20000 in
theorem t_301 : Cond.methodLink "GroupViewsLaw" 80 y_GV_waiting ∈ tblG := tblG_2 (i := 61) rfl rfl
set_option maxRecDepth 20000 in
theorem t_302 : Cond.instanceMethod y_GV_waiting ∈ tblG := tblG_2 (i := 62) rfl rfl
set_option maxRecDepth 20000 in
theorem t_303 : Cond.selects "GroupViews" y_GV_waiting y_GV_waiting ∈ tblG := tblG_2 (i := 63) rfl rfl
set_option maxRecDepth 20000 in
theorem t_304 : Cond.code y_GV_waiting c_GV_waiting 3 (some .int) ∈ tblG := tblG_2 (i := 64) rfl rfl
set_option maxRecDepth 20000 in
theorem t_307 : Cond.instanceMethod y_LN_length ∈ tblG := tblG_2 (i := 67) rfl rfl
set_option maxRecDepth 20000 in
theorem t_308 : Cond.code y_LN_length c_LN_length 1 (some .int) ∈ tblG := tblG_2 (i := 68) rfl rfl
set_option maxRecDepth 20000 in
theorem t_309 : Cond.classLink "GroupViewsLaw" 10 "GroupViewsModel" ∈ tblG := tblG_2 (i := 69) rfl rfl
set_option maxRecDepth 20000 in
theorem t_310 : Cond.instantiable "GroupViewsModel" 23 ∈ tblG := tblG_2 (i := 70) rfl rfl
set_option maxRecDepth 20000 in
theorem t_311 : Cond.methodLink "GroupViewsLaw" 12 y_MD_init ∈ tblG := tblG_2 (i := 71) rfl rfl
set_option maxRecDepth 20000 in
theorem t_312 : Cond.instanceMethod y_MD_init ∈ tblG := tblG_2 (i := 72) rfl rfl
set_option maxRecDepth 20000 in
theorem t_313 : Cond.code y_MD_init c_MD_init 1 none ∈ tblG := tblG_2 (i := 73) rfl rfl
set_option maxRecDepth 20000 in
theorem t_314 : Cond.methodLink "GroupViewsModel" 1 objectInit ∈ tblG := tblG_2 (i := 74) rfl rfl
set_option maxRecDepth 20000 in
theorem t_315 : Cond.fieldLink "GroupViewsModel" 7 "GroupViewsModel" "view" "[I" ∈ tblG := tblG_2 (i := 75) rfl rfl
set_option maxRecDepth 20000 in
theorem t_316 : Cond.fieldLink "GroupViewsModel" 13 "GroupViewsModel" "change" "[I" ∈ tblG := tblG_2 (i := 76) rfl rfl
set_option maxRecDepth 20000 in
theorem t_317 : Cond.fieldLink "GroupViewsModel" 16 "GroupViewsModel" "changeSet" "[I" ∈ tblG := tblG_2 (i := 77) rfl rfl
set_option maxRecDepth 20000 in
theorem t_318 : Cond.fieldLink "GroupViewsModel" 19 "GroupViewsModel" "open" "[Z" ∈ tblG := tblG_2 (i := 78) rfl rfl
set_option maxRecDepth 20000 in
theorem t_319 : Cond.fieldLink "GroupViewsModel" 23 "GroupViewsModel" "blocked" "[Z" ∈ tblG := tblG_2 (i := 79) rfl rfl
set_option maxRecDepth 20000 in
theorem t_320 : Cond.fieldLink "GroupViewsModel" 26 "GroupViewsModel" "pending" "[I" ∈ tblG := tblG_2 (i := 80) rfl rfl
set_option maxRecDepth 20000 in
theorem t_321 : Cond.fieldLink "GroupViewsModel" 29 "GroupViewsModel" "told" "[I" ∈ tblG := tblG_2 (i := 81) rfl rfl
set_option maxRecDepth 20000 in
theorem t_322 : Cond.fieldLink "GroupViewsModel" 32 "GroupViewsModel" "sent" "[I" ∈ tblG := tblG_2 (i := 82) rfl rfl
set_option maxRecDepth 20000 in
theorem t_323 : Cond.fieldLink "GroupViewsModel" 35 "GroupViewsModel" "delivered" "[I" ∈ tblG := tblG_2 (i := 83) rfl rfl
set_option maxRecDepth 20000 in
theorem t_324 : Cond.fieldLink "GroupViewsModel" 38 "GroupViewsModel" "event" "[I" ∈ tblG := tblG_2 (i := 84) rfl rfl
set_option maxRecDepth 20000 in
theorem t_325 : Cond.fieldLink "GroupViewsModel" 86 "GroupViewsModel" "views" "I" ∈ tblG := tblG_2 (i := 85) rfl rfl
set_option maxRecDepth 20000 in
theorem t_326 : Cond.fieldLink "GroupViewsModel" 41 "GroupViewsModel" "members" "[I" ∈ tblG := tblG_2 (i := 86) rfl rfl
set_option maxRecDepth 20000 in
theorem t_327 : Cond.fieldLink "GroupViewsModel" 44 "GroupViewsModel" "starts" "[I" ∈ tblG := tblG_2 (i := 87) rfl rfl
set_option maxRecDepth 20000 in
theorem t_328 : Cond.fieldLink "GroupViewsModel" 47 "GroupViewsModel" "payload" "[I" ∈ tblG := tblG_2 (i := 88) rfl rfl
set_option maxRecDepth 20000 in
theorem t_329 : Cond.fieldLink "GroupViewsModel" 50 "GroupViewsModel" "vector" "[I" ∈ tblG := tblG_2 (i := 89) rfl rfl
set_option maxRecDepth 20000 in
theorem t_330 : Cond.fieldLink "GroupViewsModel" 53 "GroupViewsModel" "knows" "[Z" ∈ tblG := tblG_2 (i := 90) rfl rfl
set_option maxRecDepth 20000 in
theorem t_331 : Cond.fieldLink "GroupViewsModel" 56 "GroupViewsModel" "syncView" "[I" ∈ tblG := tblG_2 (i := 91) rfl rfl
set_option maxRecDepth 20000 in
theorem t_332 : Cond.fieldLink "GroupViewsModel" 59 "GroupViewsModel" "cut" "[I" ∈ tblG := tblG_2 (i := 92) rfl rfl
set_option maxRecDepth 20000 in
theorem t_333 : Cond.fieldLink "GroupViewsModel" 62 "GroupViewsModel" "heard" "[Z" ∈ tblG := tblG_2 (i := 93) rfl rfl
set_option maxRecDepth 20000 in
theorem t_334 : Cond.fieldLink "GroupViewsModel" 65 "GroupViewsModel" "packet" "[I" ∈ tblG := tblG_2 (i := 94) rfl rfl
set_option maxRecDepth 20000 in
theorem t_335 : Cond.fieldLink "GroupViewsModel" 68 "GroupViewsModel" "length" "[I" ∈ tblG := tblG_2 (i := 95) rfl rfl
set_option maxRecDepth 20000 in
theorem t_336 : Cond.fieldLink "GroupViewsModel" 71 "GroupViewsModel" "limit" "[I" ∈ tblG := tblG_2 (i := 96) rfl rfl
set_option maxRecDepth 20000 in
theorem t_337 : Cond.fieldLink "GroupViewsModel" 90 "GroupViewsModel" "companions" "I" ∈ tblG := tblG_2 (i := 97) rfl rfl
set_option maxRecDepth 20000 in
theorem t_385 : Cond.arrayClass .boolean ∈ tblG := tblG_2 (i := 145) rfl rfl
set_option maxRecDepth 20000 in
theorem t_386 : Cond.methodLink "GroupViewsLaw" 17 y_MD_send ∈ tblG := tblG_2 (i := 146) rfl rfl
set_option maxRecDepth 20000 in
theorem t_387 : Cond.instanceMethod y_MD_send ∈ tblG := tblG_2 (i := 147) rfl rfl
set_option maxRecDepth 20000 in
theorem t_388 : Cond.selects "GroupViewsModel" y_MD_send y_MD_send ∈ tblG := tblG_2 (i := 148) rfl rfl
set_option maxRecDepth 20000 in
theorem t_389 : Cond.code y_MD_send c_MD_send 5 (some .int) ∈ tblG := tblG_2 (i := 149) rfl rfl
set_option maxRecDepth 20000 in
theorem t_390 : Cond.methodLink "GroupViewsModel" 74 y_MD_within ∈ tblG := tblG_2 (i := 150) rfl rfl
set_option maxRecDepth 20000 in
theorem t_391 : Cond.static y_MD_within ∈ tblG := tblG_2 (i := 151) rfl rfl
set_option maxRecDepth 20000 in
theorem t_392 : Cond.code y_MD_within c_MD_within 3 (some .boolean) ∈ tblG := tblG_2 (i := 152) rfl rfl
set_option maxRecDepth 20000 in
theorem t_393 : Cond.methodLink "GroupViewsModel" 78 y_MD_present ∈ tblG := tblG_2 (i := 153) rfl rfl
set_option maxRecDepth 20000 in
theorem t_395 : Cond.instanceMethod y_MD_present ∈ tblG := tblG_2 (i := 155) rfl rfl
set_option maxRecDepth 20000 in
theorem t_396 : Cond.code y_MD_present c_MD_present 2 (some .int) ∈ tblG := tblG_2 (i := 156) rfl rfl
set_option maxRecDepth 20000 in
theorem t_397 : Cond.methodLink "GroupViewsModel" 82 y_MD_put ∈ tblG := tblG_2 (i := 157) rfl rfl
set_option maxRecDepth 20000 in
theorem t_399 : Cond.instanceMethod y_MD_put ∈ tblG := tblG_2 (i := 159) rfl rfl
set_option maxRecDepth 20000 in
theorem t_400 : Cond.code y_MD_put c_MD_put 5 none ∈ tblG := tblG_2 (i := 160) rfl rfl
set_option maxRecDepth 20000 in
theorem t_401 : Cond.methodLink "GroupViewsLaw" 21 y_MD_change ∈ tblG := tblG_2 (i := 161) rfl rfl
set_option maxRecDepth 20000 in
theorem t_402 : Cond.instanceMethod y_MD_change ∈ tblG := tblG_2 (i := 162) rfl rfl
set_option maxRecDepth 20000 in
theorem t_403 : Cond.selects "GroupViewsModel" y_MD_change y_MD_change ∈ tblG := tblG_2 (i := 163) rfl rfl
set_option maxRecDepth 20000 in
theorem t_404 : Cond.code y_MD_change c_MD_change 5 (some .int) ∈ tblG := tblG_2 (i := 164) rfl rfl
set_option maxRecDepth 20000 in
theorem t_405 : Cond.methodLink "GroupViewsLaw" 26 y_MD_form ∈ tblG := tblG_2 (i := 165) rfl rfl
set_option maxRecDepth 20000 in
theorem t_406 : Cond.instanceMethod y_MD_form ∈ tblG := tblG_2 (i := 166) rfl rfl
set_option maxRecDepth 20000 in
theorem t_407 : Cond.selects "GroupViewsModel" y_MD_form y_MD_form ∈ tblG := tblG_2 (i := 167) rfl rfl
set_option maxRecDepth 20000 in
theorem t_408 : Cond.code y_MD_form c_MD_form 3 (some .int) ∈ tblG := tblG_2 (i := 168) rfl rfl
set_option maxRecDepth 20000 in
theorem t_409 : Cond.methodLink "GroupViewsLaw" 30 y_MD_tell ∈ tblG := tblG_2 (i := 169) rfl rfl
set_option maxRecDepth 20000 in
theorem t_410 : Cond.instanceMethod y_MD_tell ∈ tblG := tblG_2 (i := 170) rfl rfl
set_option maxRecDepth 20000 in
theorem t_411 : Cond.selects "GroupViewsModel" y_MD_tell y_MD_tell ∈ tblG := tblG_2 (i := 171) rfl rfl
set_option maxRecDepth 20000 in
theorem t_412 : Cond.code y_MD_tell c_MD_tell 3 (some .int) ∈ tblG := tblG_2 (i := 172) rfl rfl
set_option maxRecDepth 20000 in
theorem t_413 : Cond.methodLink "GroupViewsLaw" 34 y_MD_carry ∈ tblG := tblG_2 (i := 173) rfl rfl
set_option maxRecDepth 20000 in
theorem t_414 : Cond.instanceMethod y_MD_carry ∈ tblG := tblG_2 (i := 174) rfl rfl
set_option maxRecDepth 20000 in
theorem t_415 : Cond.selects "GroupViewsModel" y_MD_carry y_MD_carry ∈ tblG := tblG_2 (i := 175) rfl rfl
set_option maxRecDepth 20000 in
theorem t_416 : Cond.code y_MD_carry c_MD_carry 8 (some .int) ∈ tblG := tblG_2 (i := 176) rfl rfl
set_option maxRecDepth 20000 in
theorem t_417 : Cond.methodLink "GroupViewsLaw" 38 y_MD_step ∈ tblG := tblG_2 (i := 177) rfl rfl
set_option maxRecDepth 20000 in
theorem t_418 : Cond.instanceMethod y_MD_step ∈ tblG := tblG_2 (i := 178) rfl rfl
set_option maxRecDepth 20000 in
theorem t_419 : Cond.selects "GroupViewsModel" y_MD_step y_MD_step ∈ tblG := tblG_2 (i := 179) rfl rfl
set_option maxRecDepth 20000 in
theorem t_420 : Cond.code y_MD_step c_MD_step 5 (some .int) ∈ tblG := tblG_2 (i := 180) rfl rfl
set_option maxRecDepth 20000 in
theorem t_421 : Cond.methodLink "GroupViewsModel" 93 y_MD_limits ∈ tblG := tblG_2 (i := 181) rfl rfl
set_option maxRecDepth 20000 in
theorem t_423 : Cond.instanceMethod y_MD_limits ∈ tblG := tblG_2 (i := 183) rfl rfl
set_option maxRecDepth 20000 in
theorem t_424 : Cond.code y_MD_limits c_MD_limits 7 (some .int) ∈ tblG := tblG_2 (i := 184) rfl rfl
set_option maxRecDepth 20000 in
theorem t_425 : Cond.methodLink "GroupViewsModel" 96 y_MD_deliverable ∈ tblG := tblG_2 (i := 185) rfl rfl
set_option maxRecDepth 20000 in
theorem t_427 : Cond.instanceMethod y_MD_deliverable ∈ tblG := tblG_2 (i := 187) rfl rfl
set_option maxRecDepth 20000 in
theorem t_428 : Cond.code y_MD_deliverable c_MD_deliverable 6 (some .boolean) ∈ tblG := tblG_2 (i := 188) rfl rfl
set_option maxRecDepth 20000 in
theorem t_429 : Cond.methodLink "GroupViewsModel" 100 y_MD_note ∈ tblG := tblG_2 (i := 189) rfl rfl
set_option maxRecDepth 20000 in
theorem t_431 : Cond.instanceMethod y_MD_note ∈ tblG := tblG_2 (i := 191) rfl rfl
set_option maxRecDepth 20000 in
theorem t_432 : Cond.code y_MD_note c_MD_note 6 none ∈ tblG := tblG_2 (i := 192) rfl rfl
set_option maxRecDepth 20000 in
theorem t_433 : Cond.methodLink "GroupViewsLaw" 42 y_MD_event ∈ tblG := tblG_2 (i := 193) rfl rfl
set_option maxRecDepth 20000 in
theorem t_434 : Cond.instanceMethod y_MD_event ∈ tblG := tblG_2 (i := 194) rfl rfl
set_option maxRecDepth 20000 in
theorem t_435 : Cond.selects "GroupViewsModel" y_MD_event y_MD_event ∈ tblG := tblG_2 (i := 195) rfl rfl
set_option maxRecDepth 20000 in
theorem t_436 : Cond.code y_MD_event c_MD_event 3 (some .int) ∈ tblG := tblG_2 (i := 196) rfl rfl
set_option maxRecDepth 20000 in
theorem t_437 : Cond.methodLink "GroupViewsLaw" 46 y_MD_view ∈ tblG := tblG_2 (i := 197) rfl rfl
set_option maxRecDepth 20000 in
theorem t_438 : Cond.instanceMethod y_MD_view ∈ tblG := tblG_2 (i := 198) rfl rfl
set_option maxRecDepth 20000 in
theorem t_439 : Cond.selects "GroupViewsModel" y_MD_view y_MD_view ∈ tblG := tblG_2 (i := 199) rfl rfl
set_option maxRecDepth 20000 in
theorem t_440 : Cond.code y_MD_view c_MD_view 2 (some .int) ∈ tblG := tblG_2 (i := 200) rfl rfl
set_option maxRecDepth 20000 in
theorem t_441 : Cond.methodLink "GroupViewsLaw" 50 y_MD_members ∈ tblG := tblG_2 (i := 201) rfl rfl
set_option maxRecDepth 20000 in
theorem t_442 : Cond.instanceMethod y_MD_members ∈ tblG := tblG_2 (i := 202) rfl rfl
set_option maxRecDepth 20000 in
theorem t_443 : Cond.selects "GroupViewsModel" y_MD_members y_MD_members ∈ tblG := tblG_2 (i := 203) rfl rfl
set_option maxRecDepth 20000 in
theorem t_444 : Cond.code y_MD_members c_MD_members 2 (some .int) ∈ tblG := tblG_2 (i := 204) rfl rfl
set_option maxRecDepth 20000 in
theorem t_445 : Cond.methodLink "GroupViewsLaw" 54 y_MD_start ∈ tblG := tblG_2 (i := 205) rfl rfl
set_option maxRecDepth 20000 in
theorem t_446 : Cond.instanceMethod y_MD_start ∈ tblG := tblG_2 (i := 206) rfl rfl
set_option maxRecDepth 20000 in
theorem t_447 : Cond.selects "GroupViewsModel" y_MD_start y_MD_start ∈ tblG := tblG_2 (i := 207) rfl rfl
set_option maxRecDepth 20000 in
theorem t_448 : Cond.code y_MD_start c_MD_start 3 (some .int) ∈ tblG := tblG_2 (i := 208) rfl rfl
set_option maxRecDepth 20000 in
theorem t_449 : Cond.methodLink "GroupViewsLaw" 59 y_MD_blocked ∈ tblG := tblG_2 (i := 209) rfl rfl
set_option maxRecDepth 20000 in
theorem t_450 : Cond.instanceMethod y_MD_blocked ∈ tblG := tblG_2 (i := 210) rfl rfl
set_option maxRecDepth 20000 in
theorem t_451 : Cond.selects "GroupViewsModel" y_MD_blocked y_MD_blocked ∈ tblG := tblG_2 (i := 211) rfl rfl
set_option maxRecDepth 20000 in
theorem t_452 : Cond.code y_MD_blocked c_MD_blocked 2 (some .boolean) ∈ tblG := tblG_2 (i := 212) rfl rfl
set_option maxRecDepth 20000 in
theorem t_453 : Cond.methodLink "GroupViewsLaw" 63 y_MD_pending ∈ tblG := tblG_2 (i := 213) rfl rfl
set_option maxRecDepth 20000 in
theorem t_454 : Cond.instanceMethod y_MD_pending ∈ tblG := tblG_2 (i := 214) rfl rfl
set_option maxRecDepth 20000 in
theorem t_455 : Cond.selects "GroupViewsModel" y_MD_pending y_MD_pending ∈ tblG := tblG_2 (i := 215) rfl rfl
set_option maxRecDepth 20000 in
theorem t_456 : Cond.code y_MD_pending c_MD_pending 2 (some .int) ∈ tblG := tblG_2 (i := 216) rfl rfl
set_option maxRecDepth 20000 in
theorem t_457 : Cond.methodLink "GroupViewsLaw" 67 y_MD_changes ∈ tblG := tblG_2 (i := 217) rfl rfl
set_option maxRecDepth 20000 in
theorem t_458 : Cond.instanceMethod y_MD_changes ∈ tblG := tblG_2 (i := 218) rfl rfl
set_option maxRecDepth 20000 in
theorem t_459 : Cond.selects "GroupViewsModel" y_MD_changes y_MD_changes ∈ tblG := tblG_2 (i := 219) rfl rfl
set_option maxRecDepth 20000 in
theorem t_460 : Cond.code y_MD_changes c_MD_changes 2 (some .int) ∈ tblG := tblG_2 (i := 220) rfl rfl
set_option maxRecDepth 20000 in
theorem t_461 : Cond.methodLink "GroupViewsLaw" 71 y_MD_sent ∈ tblG := tblG_2 (i := 221) rfl rfl
set_option maxRecDepth 20000 in
theorem t_462 : Cond.instanceMethod y_MD_sent ∈ tblG := tblG_2 (i := 222) rfl rfl
set_option maxRecDepth 20000 in
theorem t_463 : Cond.selects "GroupViewsModel" y_MD_sent y_MD_sent ∈ tblG := tblG_2 (i := 223) rfl rfl
set_option maxRecDepth 20000 in
theorem t_464 : Cond.code y_MD_sent c_MD_sent 2 (some .int) ∈ tblG := tblG_2 (i := 224) rfl rfl
set_option maxRecDepth 20000 in
theorem t_465 : Cond.methodLink "GroupViewsLaw" 75 y_MD_delivered ∈ tblG := tblG_2 (i := 225) rfl rfl
set_option maxRecDepth 20000 in
theorem t_466 : Cond.instanceMethod y_MD_delivered ∈ tblG := tblG_2 (i := 226) rfl rfl
set_option maxRecDepth 20000 in
theorem t_467 : Cond.selects "GroupViewsModel" y_MD_delivered y_MD_delivered ∈ tblG := tblG_2 (i := 227) rfl rfl
set_option maxRecDepth 20000 in
theorem t_468 : Cond.code y_MD_delivered c_MD_delivered 3 (some .int) ∈ tblG := tblG_2 (i := 228) rfl rfl
set_option maxRecDepth 20000 in
theorem t_469 : Cond.methodLink "GroupViewsLaw" 79 y_MD_known ∈ tblG := tblG_2 (i := 229) rfl rfl
set_option maxRecDepth 20000 in
theorem t_470 : Cond.instanceMethod y_MD_known ∈ tblG := tblG_2 (i := 230) rfl rfl
set_option maxRecDepth 20000 in
theorem t_471 : Cond.selects "GroupViewsModel" y_MD_known y_MD_known ∈ tblG := tblG_2 (i := 231) rfl rfl
set_option maxRecDepth 20000 in
theorem t_472 : Cond.code y_MD_known c_MD_known 5 (some .int) ∈ tblG := tblG_2 (i := 232) rfl rfl
set_option maxRecDepth 20000 in
theorem t_473 : Cond.methodLink "GroupViewsLaw" 83 y_MD_waiting ∈ tblG := tblG_2 (i := 233) rfl rfl
set_option maxRecDepth 20000 in
theorem t_474 : Cond.instanceMethod y_MD_waiting ∈ tblG := tblG_2 (i := 234) rfl rfl
set_option maxRecDepth 20000 in
theorem t_475 : Cond.selects "GroupViewsModel" y_MD_waiting y_MD_waiting ∈ tblG := tblG_2 (i := 235) rfl rfl
set_option maxRecDepth 20000 in
theorem t_476 : Cond.code y_MD_waiting c_MD_waiting 3 (some .int) ∈ tblG := tblG_2 (i := 236) rfl rfl
theorem ts_PS_learnMessage : Cond.selects "GroupViews$ProcessState" y_PS_learnMessage y_PS_learnMessage ∈ tblG := tblG_s (i := 0) rfl
theorem ts_GV_presentSet : Cond.selects "GroupViews" y_GV_presentSet y_GV_presentSet ∈ tblG := tblG_s (i := 1) rfl
theorem ts_GV_putToOthers : Cond.selects "GroupViews" y_GV_putToOthers y_GV_putToOthers ∈ tblG := tblG_s (i := 2) rfl
theorem ts_LN_put : Cond.selects "GroupViews$Line" y_LN_put y_LN_put ∈ tblG := tblG_s (i := 3) rfl
theorem ts_PS_learnSync : Cond.selects "GroupViews$ProcessState" y_PS_learnSync y_PS_learnSync ∈ tblG := tblG_s (i := 4) rfl
theorem ts_GV_canForm : Cond.selects "GroupViews" y_GV_canForm y_GV_canForm ∈ tblG := tblG_s (i := 5) rfl
theorem ts_GV_isFormed : Cond.selects "GroupViews" y_GV_isFormed y_GV_isFormed ∈ tblG := tblG_s (i := 6) rfl
theorem ts_LN_takeFirst : Cond.selects "GroupViews$Line" y_LN_takeFirst y_LN_takeFirst ∈ tblG := tblG_s (i := 7) rfl
theorem ts_GV_receiveSync : Cond.selects "GroupViews" y_GV_receiveSync y_GV_receiveSync ∈ tblG := tblG_s (i := 8) rfl
theorem ts_GV_deliverOne : Cond.selects "GroupViews" y_GV_deliverOne y_GV_deliverOne ∈ tblG := tblG_s (i := 9) rfl
theorem ts_GV_isDeliverable : Cond.selects "GroupViews" y_GV_isDeliverable y_GV_isDeliverable ∈ tblG := tblG_s (i := 10) rfl
theorem ts_PS_knowsMessage : Cond.selects "GroupViews$ProcessState" y_PS_knowsMessage y_PS_knowsMessage ∈ tblG := tblG_s (i := 11) rfl
theorem ts_PS_setEvent : Cond.selects "GroupViews$ProcessState" y_PS_setEvent y_PS_setEvent ∈ tblG := tblG_s (i := 12) rfl
theorem ts_GV_isReady : Cond.selects "GroupViews" y_GV_isReady y_GV_isReady ∈ tblG := tblG_s (i := 13) rfl
theorem ts_PS_knowsSync : Cond.selects "GroupViews$ProcessState" y_PS_knowsSync y_PS_knowsSync ∈ tblG := tblG_s (i := 14) rfl
theorem ts_GV_companionsAmong : Cond.selects "GroupViews" y_GV_companionsAmong y_GV_companionsAmong ∈ tblG := tblG_s (i := 15) rfl
theorem ts_GV_limitsOf : Cond.selects "GroupViews" y_GV_limitsOf y_GV_limitsOf ∈ tblG := tblG_s (i := 16) rfl
theorem ts_PS_enterPending : Cond.selects "GroupViews$ProcessState" y_PS_enterPending y_PS_enterPending ∈ tblG := tblG_s (i := 17) rfl
theorem ts_PS_messagesKnownOf : Cond.selects "GroupViews$ProcessState" y_PS_messagesKnownOf y_PS_messagesKnownOf ∈ tblG := tblG_s (i := 18) rfl
theorem ts_LN_length : Cond.selects "GroupViews$Line" y_LN_length y_LN_length ∈ tblG := tblG_s (i := 19) rfl
theorem ts_MD_present : Cond.selects "GroupViewsModel" y_MD_present y_MD_present ∈ tblG := tblG_s (i := 20) rfl
theorem ts_MD_put : Cond.selects "GroupViewsModel" y_MD_put y_MD_put ∈ tblG := tblG_s (i := 21) rfl
theorem ts_MD_limits : Cond.selects "GroupViewsModel" y_MD_limits y_MD_limits ∈ tblG := tblG_s (i := 22) rfl
theorem ts_MD_deliverable : Cond.selects "GroupViewsModel" y_MD_deliverable y_MD_deliverable ∈ tblG := tblG_s (i := 23) rfl
theorem ts_MD_note : Cond.selects "GroupViewsModel" y_MD_note y_MD_note ∈ tblG := tblG_s (i := 24) rfl
theorem in_LN : ∀ w ∈ u_ws "GroupViews$Line" T_LN 3, w ∈ tblG := by
  intro w hw
  refine tblG_in ?_ ?_
  · revert w; decide +kernel
  · revert w; decide +kernel
theorem in_PS : ∀ w ∈ u_ws "GroupViews$ProcessState" T_PS 16, w ∈ tblG := by
  intro w hw
  refine tblG_in ?_ ?_
  · revert w; decide +kernel
  · revert w; decide +kernel
theorem in_GV : ∀ w ∈ u_ws "GroupViews" T_GV 5, w ∈ tblG := by
  intro w hw
  refine tblG_in ?_ ?_
  · revert w; decide +kernel
  · revert w; decide +kernel
theorem in_MD : ∀ w ∈ u_ws "GroupViewsModel" T_MD 23, w ∈ tblG := by
  intro w hw
  refine tblG_in ?_ ?_
  · revert w; decide +kernel
  · revert w; decide +kernel
end
section
theorem d_LN_init_0 : decode c_LN_init 0 = .ok (.aload_n 0, 1) := by decide +kernel
theorem d_LN_init_1 : decode c_LN_init 1 = .ok (.invokespecial 3, 3) := by decide +kernel
theorem d_LN_init_4 : decode c_LN_init 4 = .ok (.aload_n 0, 1) := by decide +kernel
theorem d_LN_init_5 : decode c_LN_init 5 = .ok (.bipush 75, 2) := by decide +kernel
theorem d_LN_init_7 : decode c_LN_init 7 = .ok (.newarray .int, 2) := by decide +kernel
theorem d_LN_init_9 : decode c_LN_init 9 = .ok (.putfield 9, 3) := by decide +kernel
theorem d_LN_init_12 : decode c_LN_init 12 = .ok (.return_, 1) := by decide +kernel
theorem d_LN_put_0 : decode c_LN_put 0 = .ok (.aload_n 0, 1) := by decide +kernel
theorem d_LN_put_1 : decode c_LN_put 1 = .ok (.getfield 15, 3) := by decide +kernel
theorem d_LN_put_4 : decode c_LN_put 4 = .ok (.aload_n 0, 1) := by decide +kernel
theorem d_LN_put_5 : decode c_LN_put 5 = .ok (.getfield 9, 3) := by decide +kernel
theorem d_LN_put_8 : decode c_LN_put 8 = .ok (.arraylength, 1) := by decide +kernel
theorem d_LN_put_9 : decode c_LN_put 9 = .ok (.if_icmp .ge 23, 3) := by decide +kernel
theorem d_LN_put_12 : decode c_LN_put 12 = .ok (.aload_n 0, 1) := by decide +kernel
theorem d_LN_put_13 : decode c_LN_put 13 = .ok (.getfield 9, 3) := by decide +kernel
theorem d_LN_put_16 : decode c_LN_put 16 = .ok (.aload_n 0, 1) := by decide +kernel
theorem d_LN_put_17 : decode c_LN_put 17 = .ok (.getfield 15, 3) := by decide +kernel
theorem d_LN_put_20 : decode c_LN_put 20 = .ok (.iload_n 1, 1) := by decide +kernel
theorem d_LN_put_21 : decode c_LN_put 21 = .ok (.iastore, 1) := by decide +kernel
theorem d_LN_put_22 : decode c_LN_put 22 = .ok (.aload_n 0, 1) := by decide +kernel
theorem d_LN_put_23 : decode c_LN_put 23 = .ok (.dup, 1) := by decide +kernel
theorem d_LN_put_24 : decode c_LN_put 24 = .ok (.getfield 15, 3) := by decide +kernel
theorem d_LN_put_27 : decode c_LN_put 27 = .ok (.iconst 1, 1) := by decide +kernel
theorem d_LN_put_28 : decode c_LN_put 28 = .ok (.iadd, 1) := by decide +kernel
theorem d_LN_put_29 : decode c_LN_put 29 = .ok (.putfield 15, 3) := by decide +kernel
theorem d_LN_put_32 : decode c_LN_put 32 = .ok (.return_, 1) := by decide +kernel
theorem d_LN_takeFirst_0 : decode c_LN_takeFirst 0 = .ok (.aload_n 0, 1) := by decide +kernel
theorem d_LN_takeFirst_1 : decode c_LN_takeFirst 1 = .ok (.getfield 19, 3) := by decide +kernel
theorem d_LN_takeFirst_4 : decode c_LN_takeFirst 4 = .ok (.aload_n 0, 1) := by decide +kernel
theorem d_LN_takeFirst_5 : decode c_LN_takeFirst 5 = .ok (.getfield 15, 3) := by decide +kernel
theorem d_LN_takeFirst_8 : decode c_LN_takeFirst 8 = .ok (.if_icmp .lt 5, 3) := by decide +kernel
theorem d_LN_takeFirst_11 : decode c_LN_takeFirst 11 = .ok (.iconst (-1), 1) := by decide +kernel
theorem d_LN_takeFirst_12 : decode c_LN_takeFirst 12 = .ok (.ireturn, 1) := by decide +kernel
theorem d_LN_takeFirst_13 : decode c_LN_takeFirst 13 = .ok (.aload_n 0, 1) := by decide +kernel
theorem d_LN_takeFirst_14 : decode c_LN_takeFirst 14 = .ok (.getfield 9, 3) := by decide +kernel
theorem d_LN_takeFirst_17 : decode c_LN_takeFirst 17 = .ok (.aload_n 0, 1) := by decide +kernel
theorem d_LN_takeFirst_18 : decode c_LN_takeFirst 18 = .ok (.getfield 19, 3) := by decide +kernel
theorem d_LN_takeFirst_21 : decode c_LN_takeFirst 21 = .ok (.iaload, 1) := by decide +kernel
theorem d_LN_takeFirst_22 : decode c_LN_takeFirst 22 = .ok (.istore_n 1, 1) := by decide +kernel
theorem d_LN_takeFirst_23 : decode c_LN_takeFirst 23 = .ok (.aload_n 0, 1) := by decide +kernel
theorem d_LN_takeFirst_24 : decode c_LN_takeFirst 24 = .ok (.dup, 1) := by decide +kernel
theorem d_LN_takeFirst_25 : decode c_LN_takeFirst 25 = .ok (.getfield 19, 3) := by decide +kernel
theorem d_LN_takeFirst_28 : decode c_LN_takeFirst 28 = .ok (.iconst 1, 1) := by decide +kernel
theorem d_LN_takeFirst_29 : decode c_LN_takeFirst 29 = .ok (.iadd, 1) := by decide +kernel
theorem d_LN_takeFirst_30 : decode c_LN_takeFirst 30 = .ok (.putfield 19, 3) := by decide +kernel
theorem d_LN_takeFirst_33 : decode c_LN_takeFirst 33 = .ok (.iload_n 1, 1) := by decide +kernel
theorem d_LN_takeFirst_34 : decode c_LN_takeFirst 34 = .ok (.ireturn, 1) := by decide +kernel
theorem d_LN_length_0 : decode c_LN_length 0 = .ok (.aload_n 0, 1) := by decide +kernel
theorem d_LN_length_1 : decode c_LN_length 1 = .ok (.getfield 15, 3) := by decide +kernel
theorem d_LN_length_4 : decode c_LN_length 4 = .ok (.aload_n 0, 1) := by decide +kernel
theorem d_LN_length_5 : decode c_LN_length 5 = .ok (.getfield 19, 3) := by decide +kernel
theorem d_LN_length_8 : decode c_LN_length 8 = .ok (.isub, 1) := by decide +kernel
theorem d_LN_length_9 : decode c_LN_length 9 = .ok (.ireturn, 1) := by decide +kernel
theorem d_PS_init_0 : decode c_PS_init 0 = .ok (.aload_n 0, 1) := by decide +kernel
theorem d_PS_init_1 : decode c_PS_init 1 = .ok (.invokespecial 3, 3) := by decide +kernel
theorem d_PS_init_4 : decode c_PS_init 4 = .ok (.aload_n 0, 1) := by decide +kernel
theorem d_PS_init_5 : decode c_PS_init 5 = .ok (.bipush 64, 2) := by decide +kernel
theorem d_PS_init_7 : decode c_PS_init 7 = .ok (.newarray .int, 2) := by decide +kernel
theorem d_PS_init_9 : decode c_PS_init 9 = .ok (.putfield 9, 3) := by decide +kernel
theorem d_PS_init_12 : decode c_PS_init 12 = .ok (.aload_n 0, 1) := by decide +kernel
theorem d_PS_init_13 : decode c_PS_init 13 = .ok (.iconst 4, 1) := by decide +kernel
theorem d_PS_init_14 : decode c_PS_init 14 = .ok (.newarray .int, 2) := by decide +kernel
theorem d_PS_init_16 : decode c_PS_init 16 = .ok (.putfield 15, 3) := by decide +kernel
theorem d_PS_init_19 : decode c_PS_init 19 = .ok (.aload_n 0, 1) := by decide +kernel
theorem d_PS_init_20 : decode c_PS_init 20 = .ok (.bipush 64, 2) := by decide +kernel
theorem d_PS_init_22 : decode c_PS_init 22 = .ok (.newarray .int, 2) := by decide +kernel
theorem d_PS_init_24 : decode c_PS_init 24 = .ok (.putfield 18, 3) := by decide +kernel
theorem d_PS_init_27 : decode c_PS_init 27 = .ok (.aload_n 0, 1) := by decide +kernel
theorem d_PS_init_28 : decode c_PS_init 28 = .ok (.bipush 64, 2) := by decide +kernel
theorem d_PS_init_30 : decode c_PS_init 30 = .ok (.newarray .int, 2) := by decide +kernel
theorem d_PS_init_32 : decode c_PS_init 32 = .ok (.putfield 21, 3) := by decide +kernel
theorem d_PS_init_35 : decode c_PS_init 35 = .ok (.aload_n 0, 1) := by decide +kernel
theorem d_PS_init_36 : decode c_PS_init 36 = .ok (.bipush 16, 2) := by decide +kernel
theorem d_PS_init_38 : decode c_PS_init 38 = .ok (.newarray .int, 2) := by decide +kernel
theorem d_PS_init_40 : decode c_PS_init 40 = .ok (.putfield 24, 3) := by decide +kernel
theorem d_PS_init_43 : decode c_PS_init 43 = .ok (.aload_n 0, 1) := by decide +kernel
theorem d_PS_init_44 : decode c_PS_init 44 = .ok (.bipush 16, 2) := by decide +kernel
theorem d_PS_init_46 : decode c_PS_init 46 = .ok (.newarray .int, 2) := by decide +kernel
theorem d_PS_init_48 : decode c_PS_init 48 = .ok (.putfield 27, 3) := by decide +kernel
theorem d_PS_init_51 : decode c_PS_init 51 = .ok (.aload_n 0, 1) := by decide +kernel
theorem d_PS_init_52 : decode c_PS_init 52 = .ok (.iconst 4, 1) := by decide +kernel
theorem d_PS_init_53 : decode c_PS_init 53 = .ok (.newarray .int, 2) := by decide +kernel
theorem d_PS_init_55 : decode c_PS_init 55 = .ok (.putfield 30, 3) := by decide +kernel
theorem d_PS_init_58 : decode c_PS_init 58 = .ok (.return_, 1) := by decide +kernel
theorem d_PS_learnMessage_0 : decode c_PS_learnMessage 0 = .ok (.aload_n 0, 1) := by decide +kernel
theorem d_PS_learnMessage_1 : decode c_PS_learnMessage 1 = .ok (.getfield 9, 3) := by decide +kernel
theorem d_PS_learnMessage_4 : decode c_PS_learnMessage 4 = .ok (.iload_n 1, 1) := by decide +kernel
theorem d_PS_learnMessage_5 : decode c_PS_learnMessage 5 = .ok (.iconst 4, 1) := by decide +kernel
theorem d_PS_learnMessage_6 : decode c_PS_learnMessage 6 = .ok (.imul, 1) := by decide +kernel
theorem d_PS_learnMessage_7 : decode c_PS_learnMessage 7 = .ok (.iload_n 2, 1) := by decide +kernel
theorem d_PS_learnMessage_8 : decode c_PS_learnMessage 8 = .ok (.iadd, 1) := by decide +kernel
theorem d_PS_learnMessage_9 : decode c_PS_learnMessage 9 = .ok (.dup2, 1) := by decide +kernel
theorem d_PS_learnMessage_10 : decode c_PS_learnMessage 10 = .ok (.iaload, 1) := by decide +kernel
theorem d_PS_learnMessage_11 : decode c_PS_learnMessage 11 = .ok (.iconst 1, 1) := by decide +kernel
theorem d_PS_learnMessage_12 : decode c_PS_learnMessage 12 = .ok (.iload_n 3, 1) := by decide +kernel
theorem d_PS_learnMessage_13 : decode c_PS_learnMessage 13 = .ok (.ishl, 1) := by decide +kernel
theorem d_PS_learnMessage_14 : decode c_PS_learnMessage 14 = .ok (.ior, 1) := by decide +kernel
theorem d_PS_learnMessage_15 : decode c_PS_learnMessage 15 = .ok (.iastore, 1) := by decide +kernel
theorem d_PS_learnMessage_16 : decode c_PS_learnMessage 16 = .ok (.return_, 1) := by decide +kernel
theorem d_PS_knowsMessage_0 : decode c_PS_knowsMessage 0 = .ok (.aload_n 0, 1) := by decide +kernel
theorem d_PS_knowsMessage_1 : decode c_PS_knowsMessage 1 = .ok (.getfield 9, 3) := by decide +kernel
theorem d_PS_knowsMessage_4 : decode c_PS_knowsMessage 4 = .ok (.aload_n 0, 1) := by decide +kernel
theorem d_PS_knowsMessage_5 : decode c_PS_knowsMessage 5 = .ok (.getfield 33, 3) := by decide +kernel
theorem d_PS_knowsMessage_8 : decode c_PS_knowsMessage 8 = .ok (.iconst 4, 1) := by decide +kernel
theorem d_PS_knowsMessage_9 : decode c_PS_knowsMessage 9 = .ok (.imul, 1) := by decide +kernel
theorem d_PS_knowsMessage_10 : decode c_PS_knowsMessage 10 = .ok (.iload_n 1, 1) := by decide +kernel
theorem d_PS_knowsMessage_11 : decode c_PS_knowsMessage 11 = .ok (.iadd, 1) := by decide +kernel
theorem d_PS_knowsMessage_12 : decode c_PS_knowsMessage 12 = .ok (.iaload, 1) := by decide +kernel
theorem d_PS_knowsMessage_13 : decode c_PS_knowsMessage 13 = .ok (.iload_n 2, 1) := by decide +kernel
theorem d_PS_knowsMessage_14 : decode c_PS_knowsMessage 14 = .ok (.ishr, 1) := by decide +kernel
theorem d_PS_knowsMessage_15 : decode c_PS_knowsMessage 15 = .ok (.iconst 1, 1) := by decide +kernel
theorem d_PS_knowsMessage_16 : decode c_PS_knowsMessage 16 = .ok (.iand, 1) := by decide +kernel
theorem d_PS_knowsMessage_17 : decode c_PS_knowsMessage 17 = .ok (.iconst 1, 1) := by decide +kernel
theorem d_PS_knowsMessage_18 : decode c_PS_knowsMessage 18 = .ok (.if_icmp .ne 7, 3) := by decide +kernel
theorem d_PS_knowsMessage_21 : decode c_PS_knowsMessage 21 = .ok (.iconst 1, 1) := by decide +kernel
theorem d_PS_knowsMessage_22 : decode c_PS_knowsMessage 22 = .ok (.goto 4, 3) := by decide +kernel
theorem d_PS_knowsMessage_25 : decode c_PS_knowsMessage 25 = .ok (.iconst 0, 1) := by decide +kernel
theorem d_PS_knowsMessage_26 : decode c_PS_knowsMessage 26 = .ok (.ireturn, 1) := by decide +kernel
theorem d_PS_messagesKnownOf_0 : decode c_PS_messagesKnownOf 0 = .ok (.aload_n 0, 1) := by decide +kernel
theorem d_PS_messagesKnownOf_1 : decode c_PS_messagesKnownOf 1 = .ok (.getfield 9, 3) := by decide +kernel
theorem d_PS_messagesKnownOf_4 : decode c_PS_messagesKnownOf 4 = .ok (.aload_n 0, 1) := by decide +kernel
theorem d_PS_messagesKnownOf_5 : decode c_PS_messagesKnownOf 5 = .ok (.getfield 33, 3) := by decide +kernel
theorem d_PS_messagesKnownOf_8 : decode c_PS_messagesKnownOf 8 = .ok (.iconst 4, 1) := by decide +kernel
theorem d_PS_messagesKnownOf_9 : decode c_PS_messagesKnownOf 9 = .ok (.imul, 1) := by decide +kernel
theorem d_PS_messagesKnownOf_10 : decode c_PS_messagesKnownOf 10 = .ok (.iload_n 1, 1) := by decide +kernel
theorem d_PS_messagesKnownOf_11 : decode c_PS_messagesKnownOf 11 = .ok (.iadd, 1) := by decide +kernel
theorem d_PS_messagesKnownOf_12 : decode c_PS_messagesKnownOf 12 = .ok (.iaload, 1) := by decide +kernel
theorem d_PS_messagesKnownOf_13 : decode c_PS_messagesKnownOf 13 = .ok (.invokestatic 37, 3) := by decide +kernel
theorem d_PS_messagesKnownOf_16 : decode c_PS_messagesKnownOf 16 = .ok (.ireturn, 1) := by decide +kernel
theorem d_PS_learnSync_0 : decode c_PS_learnSync 0 = .ok (.aload_n 0, 1) := by decide +kernel
theorem d_PS_learnSync_1 : decode c_PS_learnSync 1 = .ok (.getfield 15, 3) := by decide +kernel
theorem d_PS_learnSync_4 : decode c_PS_learnSync 4 = .ok (.iload_n 1, 1) := by decide +kernel
theorem d_PS_learnSync_5 : decode c_PS_learnSync 5 = .ok (.dup2, 1) := by decide +kernel
theorem d_PS_learnSync_6 : decode c_PS_learnSync 6 = .ok (.iaload, 1) := by decide +kernel
theorem d_PS_learnSync_7 : decode c_PS_learnSync 7 = .ok (.iconst 1, 1) := by decide +kernel
theorem d_PS_learnSync_8 : decode c_PS_learnSync 8 = .ok (.iload_n 2, 1) := by decide +kernel
theorem d_PS_learnSync_9 : decode c_PS_learnSync 9 = .ok (.ishl, 1) := by decide +kernel
theorem d_PS_learnSync_10 : decode c_PS_learnSync 10 = .ok (.ior, 1) := by decide +kernel
theorem d_PS_learnSync_11 : decode c_PS_learnSync 11 = .ok (.iastore, 1) := by decide +kernel
theorem d_PS_learnSync_12 : decode c_PS_learnSync 12 = .ok (.return_, 1) := by decide +kernel
theorem d_PS_knowsSync_0 : decode c_PS_knowsSync 0 = .ok (.aload_n 0, 1) := by decide +kernel
theorem d_PS_knowsSync_1 : decode c_PS_knowsSync 1 = .ok (.getfield 15, 3) := by decide +kernel
theorem d_PS_knowsSync_4 : decode c_PS_knowsSync 4 = .ok (.iload_n 1, 1) := by decide +kernel
theorem d_PS_knowsSync_5 : decode c_PS_knowsSync 5 = .ok (.iaload, 1) := by decide +kernel
theorem d_PS_knowsSync_6 : decode c_PS_knowsSync 6 = .ok (.iload_n 2, 1) := by decide +kernel
theorem d_PS_knowsSync_7 : decode c_PS_knowsSync 7 = .ok (.ishr, 1) := by decide +kernel
theorem d_PS_knowsSync_8 : decode c_PS_knowsSync 8 = .ok (.iconst 1, 1) := by decide +kernel
theorem d_PS_knowsSync_9 : decode c_PS_knowsSync 9 = .ok (.iand, 1) := by decide +kernel
theorem d_PS_knowsSync_10 : decode c_PS_knowsSync 10 = .ok (.iconst 1, 1) := by decide +kernel
theorem d_PS_knowsSync_11 : decode c_PS_knowsSync 11 = .ok (.if_icmp .ne 7, 3) := by decide +kernel
theorem d_PS_knowsSync_14 : decode c_PS_knowsSync 14 = .ok (.iconst 1, 1) := by decide +kernel
theorem d_PS_knowsSync_15 : decode c_PS_knowsSync 15 = .ok (.goto 4, 3) := by decide +kernel
theorem d_PS_knowsSync_18 : decode c_PS_knowsSync 18 = .ok (.iconst 0, 1) := by decide +kernel
theorem d_PS_knowsSync_19 : decode c_PS_knowsSync 19 = .ok (.ireturn, 1) := by decide +kernel
theorem d_PS_setEvent_0 : decode c_PS_setEvent 0 = .ok (.aload_n 0, 1) := by decide +kernel
theorem d_PS_setEvent_1 : decode c_PS_setEvent 1 = .ok (.getfield 30, 3) := by decide +kernel
theorem d_PS_setEvent_4 : decode c_PS_setEvent 4 = .ok (.iconst 0, 1) := by decide +kernel
theorem d_PS_setEvent_5 : decode c_PS_setEvent 5 = .ok (.iload_n 1, 1) := by decide +kernel
theorem d_PS_setEvent_6 : decode c_PS_setEvent 6 = .ok (.iastore, 1) := by decide +kernel
theorem d_PS_setEvent_7 : decode c_PS_setEvent 7 = .ok (.aload_n 0, 1) := by decide +kernel
theorem d_PS_setEvent_8 : decode c_PS_setEvent 8 = .ok (.getfield 30, 3) := by decide +kernel
theorem d_PS_setEvent_11 : decode c_PS_setEvent 11 = .ok (.iconst 1, 1) := by decide +kernel
theorem d_PS_setEvent_12 : decode c_PS_setEvent 12 = .ok (.iload_n 2, 1) := by decide +kernel
theorem d_PS_setEvent_13 : decode c_PS_setEvent 13 = .ok (.iastore, 1) := by decide +kernel
theorem d_PS_setEvent_14 : decode c_PS_setEvent 14 = .ok (.aload_n 0, 1) := by decide +kernel
theorem d_PS_setEvent_15 : decode c_PS_setEvent 15 = .ok (.getfield 30, 3) := by decide +kernel
theorem d_PS_setEvent_18 : decode c_PS_setEvent 18 = .ok (.iconst 2, 1) := by decide +kernel
theorem d_PS_setEvent_19 : decode c_PS_setEvent 19 = .ok (.iload_n 3, 1) := by decide +kernel
theorem d_PS_setEvent_20 : decode c_PS_setEvent 20 = .ok (.iastore, 1) := by decide +kernel
theorem d_PS_setEvent_21 : decode c_PS_setEvent 21 = .ok (.aload_n 0, 1) := by decide +kernel
theorem d_PS_setEvent_22 : decode c_PS_setEvent 22 = .ok (.getfield 30, 3) := by decide +kernel
theorem d_PS_setEvent_25 : decode c_PS_setEvent 25 = .ok (.iconst 3, 1) := by decide +kernel
theorem d_PS_setEvent_26 : decode c_PS_setEvent 26 = .ok (.iload 4, 2) := by decide +kernel
theorem d_PS_setEvent_28 : decode c_PS_setEvent 28 = .ok (.iastore, 1) := by decide +kernel
theorem d_PS_setEvent_29 : decode c_PS_setEvent 29 = .ok (.return_, 1) := by decide +kernel
theorem d_PS_enterPending_0 : decode c_PS_enterPending 0 = .ok (.aload_n 0, 1) := by decide +kernel
theorem d_PS_enterPending_1 : decode c_PS_enterPending 1 = .ok (.aload_n 0, 1) := by decide +kernel
theorem d_PS_enterPending_2 : decode c_PS_enterPending 2 = .ok (.getfield 43, 3) := by decide +kernel
theorem d_PS_enterPending_5 : decode c_PS_enterPending 5 = .ok (.putfield 33, 3) := by decide +kernel
theorem d_PS_enterPending_8 : decode c_PS_enterPending 8 = .ok (.aload_n 0, 1) := by decide +kernel
theorem d_PS_enterPending_9 : decode c_PS_enterPending 9 = .ok (.iconst 0, 1) := by decide +kernel
theorem d_PS_enterPending_10 : decode c_PS_enterPending 10 = .ok (.putfield 43, 3) := by decide +kernel
theorem d_PS_enterPending_13 : decode c_PS_enterPending 13 = .ok (.aload_n 0, 1) := by decide +kernel
theorem d_PS_enterPending_14 : decode c_PS_enterPending 14 = .ok (.iconst 0, 1) := by decide +kernel
theorem d_PS_enterPending_15 : decode c_PS_enterPending 15 = .ok (.putfield 46, 3) := by decide +kernel
theorem d_PS_enterPending_18 : decode c_PS_enterPending 18 = .ok (.aload_n 0, 1) := by decide +kernel
theorem d_PS_enterPending_19 : decode c_PS_enterPending 19 = .ok (.iconst 0, 1) := by decide +kernel
theorem d_PS_enterPending_20 : decode c_PS_enterPending 20 = .ok (.putfield 50, 3) := by decide +kernel
theorem d_PS_enterPending_23 : decode c_PS_enterPending 23 = .ok (.aload_n 0, 1) := by decide +kernel
theorem d_PS_enterPending_24 : decode c_PS_enterPending 24 = .ok (.iconst 0, 1) := by decide +kernel
theorem d_PS_enterPending_25 : decode c_PS_enterPending 25 = .ok (.putfield 53, 3) := by decide +kernel
theorem d_PS_enterPending_28 : decode c_PS_enterPending 28 = .ok (.return_, 1) := by decide +kernel
theorem d_IN_bitCount_0 : decode c_IN_bitCount 0 = .ok (.iload_n 0, 1) := by decide +kernel
theorem d_IN_bitCount_1 : decode c_IN_bitCount 1 = .ok (.iload_n 0, 1) := by decide +kernel
theorem d_IN_bitCount_2 : decode c_IN_bitCount 2 = .ok (.iconst 1, 1) := by decide +kernel
theorem d_IN_bitCount_3 : decode c_IN_bitCount 3 = .ok (.iushr, 1) := by decide +kernel
theorem d_IN_bitCount_4 : decode c_IN_bitCount 4 = .ok (.ldc_w 265, 3) := by decide +kernel
theorem d_IN_bitCount_7 : decode c_IN_bitCount 7 = .ok (.iand, 1) := by decide +kernel
theorem d_IN_bitCount_8 : decode c_IN_bitCount 8 = .ok (.isub, 1) := by decide +kernel
theorem d_IN_bitCount_9 : decode c_IN_bitCount 9 = .ok (.istore_n 0, 1) := by decide +kernel
theorem d_IN_bitCount_10 : decode c_IN_bitCount 10 = .ok (.iload_n 0, 1) := by decide +kernel
theorem d_IN_bitCount_11 : decode c_IN_bitCount 11 = .ok (.ldc_w 266, 3) := by decide +kernel
theorem d_IN_bitCount_14 : decode c_IN_bitCount 14 = .ok (.iand, 1) := by decide +kernel
theorem d_IN_bitCount_15 : decode c_IN_bitCount 15 = .ok (.iload_n 0, 1) := by decide +kernel
theorem d_IN_bitCount_16 : decode c_IN_bitCount 16 = .ok (.iconst 2, 1) := by decide +kernel
theorem d_IN_bitCount_17 : decode c_IN_bitCount 17 = .ok (.iushr, 1) := by decide +kernel
theorem d_IN_bitCount_18 : decode c_IN_bitCount 18 = .ok (.ldc_w 266, 3) := by decide +kernel
theorem d_IN_bitCount_21 : decode c_IN_bitCount 21 = .ok (.iand, 1) := by decide +kernel
theorem d_IN_bitCount_22 : decode c_IN_bitCount 22 = .ok (.iadd, 1) := by decide +kernel
theorem d_IN_bitCount_23 : decode c_IN_bitCount 23 = .ok (.istore_n 0, 1) := by decide +kernel
theorem d_IN_bitCount_24 : decode c_IN_bitCount 24 = .ok (.iload_n 0, 1) := by decide +kernel
theorem d_IN_bitCount_25 : decode c_IN_bitCount 25 = .ok (.iload_n 0, 1) := by decide +kernel
theorem d_IN_bitCount_26 : decode c_IN_bitCount 26 = .ok (.iconst 4, 1) := by decide +kernel
theorem d_IN_bitCount_27 : decode c_IN_bitCount 27 = .ok (.iushr, 1) := by decide +kernel
theorem d_IN_bitCount_28 : decode c_IN_bitCount 28 = .ok (.iadd, 1) := by decide +kernel
theorem d_IN_bitCount_29 : decode c_IN_bitCount 29 = .ok (.ldc_w 267, 3) := by decide +kernel
theorem d_IN_bitCount_32 : decode c_IN_bitCount 32 = .ok (.iand, 1) := by decide +kernel
theorem d_IN_bitCount_33 : decode c_IN_bitCount 33 = .ok (.istore_n 0, 1) := by decide +kernel
theorem d_IN_bitCount_34 : decode c_IN_bitCount 34 = .ok (.iload_n 0, 1) := by decide +kernel
theorem d_IN_bitCount_35 : decode c_IN_bitCount 35 = .ok (.iload_n 0, 1) := by decide +kernel
theorem d_IN_bitCount_36 : decode c_IN_bitCount 36 = .ok (.bipush 8, 2) := by decide +kernel
theorem d_IN_bitCount_38 : decode c_IN_bitCount 38 = .ok (.iushr, 1) := by decide +kernel
theorem d_IN_bitCount_39 : decode c_IN_bitCount 39 = .ok (.iadd, 1) := by decide +kernel
theorem d_IN_bitCount_40 : decode c_IN_bitCount 40 = .ok (.istore_n 0, 1) := by decide +kernel
theorem d_IN_bitCount_41 : decode c_IN_bitCount 41 = .ok (.iload_n 0, 1) := by decide +kernel
theorem d_IN_bitCount_42 : decode c_IN_bitCount 42 = .ok (.iload_n 0, 1) := by decide +kernel
theorem d_IN_bitCount_43 : decode c_IN_bitCount 43 = .ok (.bipush 16, 2) := by decide +kernel
theorem d_IN_bitCount_45 : decode c_IN_bitCount 45 = .ok (.iushr, 1) := by decide +kernel
theorem d_IN_bitCount_46 : decode c_IN_bitCount 46 = .ok (.iadd, 1) := by decide +kernel
theorem d_IN_bitCount_47 : decode c_IN_bitCount 47 = .ok (.istore_n 0, 1) := by decide +kernel
theorem d_IN_bitCount_48 : decode c_IN_bitCount 48 = .ok (.iload_n 0, 1) := by decide +kernel
theorem d_IN_bitCount_49 : decode c_IN_bitCount 49 = .ok (.bipush 63, 2) := by decide +kernel
theorem d_IN_bitCount_51 : decode c_IN_bitCount 51 = .ok (.iand, 1) := by decide +kernel
theorem d_IN_bitCount_52 : decode c_IN_bitCount 52 = .ok (.ireturn, 1) := by decide +kernel
end
section
theorem d_GV_init_0 : decode c_GV_init 0 = .ok (.aload_n 0, 1) := by decide +kernel
theorem d_GV_init_1 : decode c_GV_init 1 = .ok (.invokespecial 3, 3) := by decide +kernel
theorem d_GV_init_4 : decode c_GV_init 4 = .ok (.aload_n 0, 1) := by decide +kernel
theorem d_GV_init_5 : decode c_GV_init 5 = .ok (.iconst 4, 1) := by decide +kernel
theorem d_GV_init_6 : decode c_GV_init 6 = .ok (.anewarray 9, 3) := by decide +kernel
theorem d_GV_init_9 : decode c_GV_init 9 = .ok (.putfield 11, 3) := by decide +kernel
theorem d_GV_init_12 : decode c_GV_init 12 = .ok (.aload_n 0, 1) := by decide +kernel
theorem d_GV_init_13 : decode c_GV_init 13 = .ok (.bipush 16, 2) := by decide +kernel
theorem d_GV_init_15 : decode c_GV_init 15 = .ok (.anewarray 15, 3) := by decide +kernel
theorem d_GV_init_18 : decode c_GV_init 18 = .ok (.putfield 17, 3) := by decide +kernel
theorem d_GV_init_21 : decode c_GV_init 21 = .ok (.aload_n 0, 1) := by decide +kernel
theorem d_GV_init_22 : decode c_GV_init 22 = .ok (.bipush 16, 2) := by decide +kernel
theorem d_GV_init_24 : decode c_GV_init 24 = .ok (.newarray .int, 2) := by decide +kernel
theorem d_GV_init_26 : decode c_GV_init 26 = .ok (.putfield 21, 3) := by decide +kernel
theorem d_GV_init_29 : decode c_GV_init 29 = .ok (.aload_n 0, 1) := by decide +kernel
theorem d_GV_init_30 : decode c_GV_init 30 = .ok (.bipush 64, 2) := by decide +kernel
theorem d_GV_init_32 : decode c_GV_init 32 = .ok (.newarray .int, 2) := by decide +kernel
theorem d_GV_init_34 : decode c_GV_init 34 = .ok (.putfield 25, 3) := by decide +kernel
theorem d_GV_init_37 : decode c_GV_init 37 = .ok (.iconst 0, 1) := by decide +kernel
theorem d_GV_init_38 : decode c_GV_init 38 = .ok (.istore_n 1, 1) := by decide +kernel
theorem d_GV_init_39 : decode c_GV_init 39 = .ok (.iload_n 1, 1) := by decide +kernel
theorem d_GV_init_40 : decode c_GV_init 40 = .ok (.iconst 4, 1) := by decide +kernel
theorem d_GV_init_41 : decode c_GV_init 41 = .ok (.if_icmp .ge 22, 3) := by decide +kernel
theorem d_GV_init_44 : decode c_GV_init 44 = .ok (.aload_n 0, 1) := by decide +kernel
theorem d_GV_init_45 : decode c_GV_init 45 = .ok (.getfield 11, 3) := by decide +kernel
theorem d_GV_init_48 : decode c_GV_init 48 = .ok (.iload_n 1, 1) := by decide +kernel
theorem d_GV_init_49 : decode c_GV_init 49 = .ok (.new 9, 3) := by decide +kernel
theorem d_GV_init_52 : decode c_GV_init 52 = .ok (.dup, 1) := by decide +kernel
theorem d_GV_init_53 : decode c_GV_init 53 = .ok (.invokespecial 28, 3) := by decide +kernel
theorem d_GV_init_56 : decode c_GV_init 56 = .ok (.aastore, 1) := by decide +kernel
theorem d_GV_init_57 : decode c_GV_init 57 = .ok (.iinc 1 1, 3) := by decide +kernel
theorem d_GV_init_60 : decode c_GV_init 60 = .ok (.goto (-21), 3) := by decide +kernel
theorem d_GV_init_63 : decode c_GV_init 63 = .ok (.iconst 0, 1) := by decide +kernel
theorem d_GV_init_64 : decode c_GV_init 64 = .ok (.istore_n 1, 1) := by decide +kernel
theorem d_GV_init_65 : decode c_GV_init 65 = .ok (.iload_n 1, 1) := by decide +kernel
theorem d_GV_init_66 : decode c_GV_init 66 = .ok (.aload_n 0, 1) := by decide +kernel
theorem d_GV_init_67 : decode c_GV_init 67 = .ok (.getfield 17, 3) := by decide +kernel
theorem d_GV_init_70 : decode c_GV_init 70 = .ok (.arraylength, 1) := by decide +kernel
theorem d_GV_init_71 : decode c_GV_init 71 = .ok (.if_icmp .ge 22, 3) := by decide +kernel
theorem d_GV_init_74 : decode c_GV_init 74 = .ok (.aload_n 0, 1) := by decide +kernel
theorem d_GV_init_75 : decode c_GV_init 75 = .ok (.getfield 17, 3) := by decide +kernel
theorem d_GV_init_78 : decode c_GV_init 78 = .ok (.iload_n 1, 1) := by decide +kernel
theorem d_GV_init_79 : decode c_GV_init 79 = .ok (.new 15, 3) := by decide +kernel
theorem d_GV_init_82 : decode c_GV_init 82 = .ok (.dup, 1) := by decide +kernel
theorem d_GV_init_83 : decode c_GV_init 83 = .ok (.invokespecial 29, 3) := by decide +kernel
theorem d_GV_init_86 : decode c_GV_init 86 = .ok (.aastore, 1) := by decide +kernel
theorem d_GV_init_87 : decode c_GV_init 87 = .ok (.iinc 1 1, 3) := by decide +kernel
theorem d_GV_init_90 : decode c_GV_init 90 = .ok (.goto (-25), 3) := by decide +kernel
theorem d_GV_init_93 : decode c_GV_init 93 = .ok (.return_, 1) := by decide +kernel
theorem d_GV_send_0 : decode c_GV_send 0 = .ok (.iload_n 1, 1) := by decide +kernel
theorem d_GV_send_1 : decode c_GV_send 1 = .ok (.invokestatic 30, 3) := by decide +kernel
theorem d_GV_send_4 : decode c_GV_send 4 = .ok (.ifCond .ne 5, 3) := by decide +kernel
theorem d_GV_send_7 : decode c_GV_send 7 = .ok (.iconst (-1), 1) := by decide +kernel
theorem d_GV_send_8 : decode c_GV_send 8 = .ok (.ireturn, 1) := by decide +kernel
theorem d_GV_send_9 : decode c_GV_send 9 = .ok (.aload_n 0, 1) := by decide +kernel
theorem d_GV_send_10 : decode c_GV_send 10 = .ok (.getfield 11, 3) := by decide +kernel
theorem d_GV_send_13 : decode c_GV_send 13 = .ok (.iload_n 1, 1) := by decide +kernel
theorem d_GV_send_14 : decode c_GV_send 14 = .ok (.aaload, 1) := by decide +kernel
theorem d_GV_send_15 : decode c_GV_send 15 = .ok (.astore_n 3, 1) := by decide +kernel
theorem d_GV_send_16 : decode c_GV_send 16 = .ok (.aload_n 3, 1) := by decide +kernel
theorem d_GV_send_17 : decode c_GV_send 17 = .ok (.getfield 34, 3) := by decide +kernel
theorem d_GV_send_20 : decode c_GV_send 20 = .ok (.ifCond .eq 6, 3) := by decide +kernel
theorem d_GV_send_23 : decode c_GV_send 23 = .ok (.bipush (-2), 2) := by decide +kernel
theorem d_GV_send_25 : decode c_GV_send 25 = .ok (.ireturn, 1) := by decide +kernel
theorem d_GV_send_26 : decode c_GV_send 26 = .ok (.aload_n 3, 1) := by decide +kernel
theorem d_GV_send_27 : decode c_GV_send 27 = .ok (.getfield 38, 3) := by decide +kernel
theorem d_GV_send_30 : decode c_GV_send 30 = .ok (.iconst 4, 1) := by decide +kernel
theorem d_GV_send_31 : decode c_GV_send 31 = .ok (.if_icmp .lt 6, 3) := by decide +kernel
theorem d_GV_send_34 : decode c_GV_send 34 = .ok (.bipush (-3), 2) := by decide +kernel
theorem d_GV_send_36 : decode c_GV_send 36 = .ok (.ireturn, 1) := by decide +kernel
theorem d_GV_send_37 : decode c_GV_send 37 = .ok (.aload_n 3, 1) := by decide +kernel
theorem d_GV_send_38 : decode c_GV_send 38 = .ok (.dup, 1) := by decide +kernel
theorem d_GV_send_39 : decode c_GV_send 39 = .ok (.getfield 38, 3) := by decide +kernel
theorem d_GV_send_42 : decode c_GV_send 42 = .ok (.iconst 1, 1) := by decide +kernel
theorem d_GV_send_43 : decode c_GV_send 43 = .ok (.iadd, 1) := by decide +kernel
theorem d_GV_send_44 : decode c_GV_send 44 = .ok (.putfield 38, 3) := by decide +kernel
theorem d_GV_send_47 : decode c_GV_send 47 = .ok (.aload_n 3, 1) := by decide +kernel
theorem d_GV_send_48 : decode c_GV_send 48 = .ok (.getfield 42, 3) := by decide +kernel
theorem d_GV_send_51 : decode c_GV_send 51 = .ok (.aload_n 3, 1) := by decide +kernel
theorem d_GV_send_52 : decode c_GV_send 52 = .ok (.getfield 38, 3) := by decide +kernel
theorem d_GV_send_55 : decode c_GV_send 55 = .ok (.invokestatic 45, 3) := by decide +kernel
theorem d_GV_send_58 : decode c_GV_send 58 = .ok (.istore 4, 2) := by decide +kernel
theorem d_GV_send_60 : decode c_GV_send 60 = .ok (.aload_n 3, 1) := by decide +kernel
theorem d_GV_send_61 : decode c_GV_send 61 = .ok (.getfield 49, 3) := by decide +kernel
theorem d_GV_send_64 : decode c_GV_send 64 = .ok (.iload 4, 2) := by decide +kernel
theorem d_GV_send_66 : decode c_GV_send 66 = .ok (.iload_n 2, 1) := by decide +kernel
theorem d_GV_send_67 : decode c_GV_send 67 = .ok (.iastore, 1) := by decide +kernel
theorem d_GV_send_68 : decode c_GV_send 68 = .ok (.aload_n 3, 1) := by decide +kernel
theorem d_GV_send_69 : decode c_GV_send 69 = .ok (.getfield 52, 3) := by decide +kernel
theorem d_GV_send_72 : decode c_GV_send 72 = .ok (.iload 4, 2) := by decide +kernel
theorem d_GV_send_74 : decode c_GV_send 74 = .ok (.aload_n 3, 1) := by decide +kernel
theorem d_GV_send_75 : decode c_GV_send 75 = .ok (.getfield 55, 3) := by decide +kernel
theorem d_GV_send_78 : decode c_GV_send 78 = .ok (.iload_n 1, 1) := by decide +kernel
theorem d_GV_send_79 : decode c_GV_send 79 = .ok (.iconst 0, 1) := by decide +kernel
theorem d_GV_send_80 : decode c_GV_send 80 = .ok (.invokestatic 58, 3) := by decide +kernel
theorem d_GV_send_83 : decode c_GV_send 83 = .ok (.iastore, 1) := by decide +kernel
theorem d_GV_send_84 : decode c_GV_send 84 = .ok (.aload_n 3, 1) := by decide +kernel
theorem d_GV_send_85 : decode c_GV_send 85 = .ok (.aload_n 3, 1) := by decide +kernel
theorem d_GV_send_86 : decode c_GV_send 86 = .ok (.getfield 42, 3) := by decide +kernel
theorem d_GV_send_89 : decode c_GV_send 89 = .ok (.iload_n 1, 1) := by decide +kernel
theorem d_GV_send_90 : decode c_GV_send 90 = .ok (.aload_n 3, 1) := by decide +kernel
theorem d_GV_send_91 : decode c_GV_send 91 = .ok (.getfield 38, 3) := by decide +kernel
theorem d_GV_send_94 : decode c_GV_send 94 = .ok (.invokevirtual 62, 3) := by decide +kernel
theorem d_GV_send_97 : decode c_GV_send 97 = .ok (.aload_n 0, 1) := by decide +kernel
theorem d_GV_send_98 : decode c_GV_send 98 = .ok (.iload_n 1, 1) := by decide +kernel
theorem d_GV_send_99 : decode c_GV_send 99 = .ok (.aload_n 0, 1) := by decide +kernel
theorem d_GV_send_100 : decode c_GV_send 100 = .ok (.iload_n 1, 1) := by decide +kernel
theorem d_GV_send_101 : decode c_GV_send 101 = .ok (.invokevirtual 66, 3) := by decide +kernel
theorem d_GV_send_104 : decode c_GV_send 104 = .ok (.iload 4, 2) := by decide +kernel
theorem d_GV_send_106 : decode c_GV_send 106 = .ok (.invokevirtual 70, 3) := by decide +kernel
theorem d_GV_send_109 : decode c_GV_send 109 = .ok (.aload_n 3, 1) := by decide +kernel
theorem d_GV_send_110 : decode c_GV_send 110 = .ok (.getfield 38, 3) := by decide +kernel
theorem d_GV_send_113 : decode c_GV_send 113 = .ok (.ireturn, 1) := by decide +kernel
theorem d_GV_change_0 : decode c_GV_change 0 = .ok (.iload_n 1, 1) := by decide +kernel
theorem d_GV_change_1 : decode c_GV_change 1 = .ok (.invokestatic 30, 3) := by decide +kernel
theorem d_GV_change_4 : decode c_GV_change 4 = .ok (.ifCond .ne 5, 3) := by decide +kernel
theorem d_GV_change_7 : decode c_GV_change 7 = .ok (.iconst (-1), 1) := by decide +kernel
theorem d_GV_change_8 : decode c_GV_change 8 = .ok (.ireturn, 1) := by decide +kernel
theorem d_GV_change_9 : decode c_GV_change 9 = .ok (.iload_n 2, 1) := by decide +kernel
theorem d_GV_change_10 : decode c_GV_change 10 = .ok (.invokestatic 73, 3) := by decide +kernel
theorem d_GV_change_13 : decode c_GV_change 13 = .ok (.ifCond .eq 11, 3) := by decide +kernel
theorem d_GV_change_16 : decode c_GV_change 16 = .ok (.iload_n 2, 1) := by decide +kernel
theorem d_GV_change_17 : decode c_GV_change 17 = .ok (.iload_n 1, 1) := by decide +kernel
theorem d_GV_change_18 : decode c_GV_change 18 = .ok (.invokestatic 76, 3) := by decide +kernel
theorem d_GV_change_21 : decode c_GV_change 21 = .ok (.ifCond .ne 6, 3) := by decide +kernel
theorem d_GV_change_24 : decode c_GV_change 24 = .ok (.bipush (-2), 2) := by decide +kernel
theorem d_GV_change_26 : decode c_GV_change 26 = .ok (.ireturn, 1) := by decide +kernel
theorem d_GV_change_27 : decode c_GV_change 27 = .ok (.aload_n 0, 1) := by decide +kernel
theorem d_GV_change_28 : decode c_GV_change 28 = .ok (.getfield 11, 3) := by decide +kernel
theorem d_GV_change_31 : decode c_GV_change 31 = .ok (.iload_n 1, 1) := by decide +kernel
theorem d_GV_change_32 : decode c_GV_change 32 = .ok (.aaload, 1) := by decide +kernel
theorem d_GV_change_33 : decode c_GV_change 33 = .ok (.astore_n 3, 1) := by decide +kernel
theorem d_GV_change_34 : decode c_GV_change 34 = .ok (.aload_n 3, 1) := by decide +kernel
theorem d_GV_change_35 : decode c_GV_change 35 = .ok (.getfield 80, 3) := by decide +kernel
theorem d_GV_change_38 : decode c_GV_change 38 = .ok (.bipush 15, 2) := by decide +kernel
theorem d_GV_change_40 : decode c_GV_change 40 = .ok (.if_icmp .lt 6, 3) := by decide +kernel
theorem d_GV_change_43 : decode c_GV_change 43 = .ok (.bipush (-3), 2) := by decide +kernel
theorem d_GV_change_45 : decode c_GV_change 45 = .ok (.ireturn, 1) := by decide +kernel
theorem d_GV_change_46 : decode c_GV_change 46 = .ok (.aload_n 3, 1) := by decide +kernel
theorem d_GV_change_47 : decode c_GV_change 47 = .ok (.dup, 1) := by decide +kernel
theorem d_GV_change_48 : decode c_GV_change 48 = .ok (.getfield 80, 3) := by decide +kernel
theorem d_GV_change_51 : decode c_GV_change 51 = .ok (.iconst 1, 1) := by decide +kernel
theorem d_GV_change_52 : decode c_GV_change 52 = .ok (.iadd, 1) := by decide +kernel
theorem d_GV_change_53 : decode c_GV_change 53 = .ok (.putfield 80, 3) := by decide +kernel
theorem d_GV_change_56 : decode c_GV_change 56 = .ok (.aload_n 3, 1) := by decide +kernel
theorem d_GV_change_57 : decode c_GV_change 57 = .ok (.iload_n 2, 1) := by decide +kernel
theorem d_GV_change_58 : decode c_GV_change 58 = .ok (.putfield 83, 3) := by decide +kernel
theorem d_GV_change_61 : decode c_GV_change 61 = .ok (.aload_n 3, 1) := by decide +kernel
theorem d_GV_change_62 : decode c_GV_change 62 = .ok (.iconst 1, 1) := by decide +kernel
theorem d_GV_change_63 : decode c_GV_change 63 = .ok (.putfield 34, 3) := by decide +kernel
theorem d_GV_change_66 : decode c_GV_change 66 = .ok (.aload_n 3, 1) := by decide +kernel
theorem d_GV_change_67 : decode c_GV_change 67 = .ok (.iconst 1, 1) := by decide +kernel
theorem d_GV_change_68 : decode c_GV_change 68 = .ok (.putfield 86, 3) := by decide +kernel
theorem d_GV_change_71 : decode c_GV_change 71 = .ok (.aload_n 3, 1) := by decide +kernel
theorem d_GV_change_72 : decode c_GV_change 72 = .ok (.iconst 0, 1) := by decide +kernel
theorem d_GV_change_73 : decode c_GV_change 73 = .ok (.putfield 89, 3) := by decide +kernel
theorem d_GV_change_76 : decode c_GV_change 76 = .ok (.aload_n 3, 1) := by decide +kernel
theorem d_GV_change_77 : decode c_GV_change 77 = .ok (.getfield 92, 3) := by decide +kernel
theorem d_GV_change_80 : decode c_GV_change 80 = .ok (.aload_n 3, 1) := by decide +kernel
theorem d_GV_change_81 : decode c_GV_change 81 = .ok (.getfield 80, 3) := by decide +kernel
theorem d_GV_change_84 : decode c_GV_change 84 = .ok (.aload_n 3, 1) := by decide +kernel
theorem d_GV_change_85 : decode c_GV_change 85 = .ok (.getfield 42, 3) := by decide +kernel
theorem d_GV_change_88 : decode c_GV_change 88 = .ok (.iastore, 1) := by decide +kernel
theorem d_GV_change_89 : decode c_GV_change 89 = .ok (.aload_n 3, 1) := by decide +kernel
theorem d_GV_change_90 : decode c_GV_change 90 = .ok (.getfield 95, 3) := by decide +kernel
theorem d_GV_change_93 : decode c_GV_change 93 = .ok (.aload_n 3, 1) := by decide +kernel
theorem d_GV_change_94 : decode c_GV_change 94 = .ok (.getfield 80, 3) := by decide +kernel
theorem d_GV_change_97 : decode c_GV_change 97 = .ok (.aload_n 3, 1) := by decide +kernel
theorem d_GV_change_98 : decode c_GV_change 98 = .ok (.getfield 55, 3) := by decide +kernel
theorem d_GV_change_101 : decode c_GV_change 101 = .ok (.iload_n 1, 1) := by decide +kernel
theorem d_GV_change_102 : decode c_GV_change 102 = .ok (.aload_n 3, 1) := by decide +kernel
theorem d_GV_change_103 : decode c_GV_change 103 = .ok (.getfield 38, 3) := by decide +kernel
theorem d_GV_change_106 : decode c_GV_change 106 = .ok (.invokestatic 58, 3) := by decide +kernel
theorem d_GV_change_109 : decode c_GV_change 109 = .ok (.iastore, 1) := by decide +kernel
theorem d_GV_change_110 : decode c_GV_change 110 = .ok (.aload_n 3, 1) := by decide +kernel
theorem d_GV_change_111 : decode c_GV_change 111 = .ok (.iload_n 1, 1) := by decide +kernel
theorem d_GV_change_112 : decode c_GV_change 112 = .ok (.aload_n 3, 1) := by decide +kernel
theorem d_GV_change_113 : decode c_GV_change 113 = .ok (.getfield 80, 3) := by decide +kernel
theorem d_GV_change_116 : decode c_GV_change 116 = .ok (.invokevirtual 98, 3) := by decide +kernel
theorem d_GV_change_119 : decode c_GV_change 119 = .ok (.aload_n 0, 1) := by decide +kernel
theorem d_GV_change_120 : decode c_GV_change 120 = .ok (.iload_n 1, 1) := by decide +kernel
theorem d_GV_change_121 : decode c_GV_change 121 = .ok (.iload_n 2, 1) := by decide +kernel
theorem d_GV_change_122 : decode c_GV_change 122 = .ok (.bipush 64, 2) := by decide +kernel
theorem d_GV_change_124 : decode c_GV_change 124 = .ok (.aload_n 3, 1) := by decide +kernel
theorem d_GV_change_125 : decode c_GV_change 125 = .ok (.getfield 80, 3) := by decide +kernel
theorem d_GV_change_128 : decode c_GV_change 128 = .ok (.iadd, 1) := by decide +kernel
theorem d_GV_change_129 : decode c_GV_change 129 = .ok (.invokevirtual 70, 3) := by decide +kernel
theorem d_GV_change_132 : decode c_GV_change 132 = .ok (.aload_n 3, 1) := by decide +kernel
theorem d_GV_change_133 : decode c_GV_change 133 = .ok (.getfield 80, 3) := by decide +kernel
theorem d_GV_change_136 : decode c_GV_change 136 = .ok (.ireturn, 1) := by decide +kernel
theorem d_GV_form_0 : decode c_GV_form 0 = .ok (.iload_n 1, 1) := by decide +kernel
theorem d_GV_form_1 : decode c_GV_form 1 = .ok (.invokestatic 73, 3) := by decide +kernel
theorem d_GV_form_4 : decode c_GV_form 4 = .ok (.ifCond .ne 6, 3) := by decide +kernel
theorem d_GV_form_7 : decode c_GV_form 7 = .ok (.bipush (-2), 2) := by decide +kernel
theorem d_GV_form_9 : decode c_GV_form 9 = .ok (.ireturn, 1) := by decide +kernel
theorem d_GV_form_10 : decode c_GV_form 10 = .ok (.aload_n 0, 1) := by decide +kernel
theorem d_GV_form_11 : decode c_GV_form 11 = .ok (.getfield 102, 3) := by decide +kernel
theorem d_GV_form_14 : decode c_GV_form 14 = .ok (.bipush 15, 2) := by decide +kernel
theorem d_GV_form_16 : decode c_GV_form 16 = .ok (.if_icmp .lt 6, 3) := by decide +kernel
theorem d_GV_form_19 : decode c_GV_form 19 = .ok (.bipush (-3), 2) := by decide +kernel
theorem d_GV_form_21 : decode c_GV_form 21 = .ok (.ireturn, 1) := by decide +kernel
theorem d_GV_form_22 : decode c_GV_form 22 = .ok (.aload_n 0, 1) := by decide +kernel
theorem d_GV_form_23 : decode c_GV_form 23 = .ok (.iload_n 1, 1) := by decide +kernel
theorem d_GV_form_24 : decode c_GV_form 24 = .ok (.invokevirtual 105, 3) := by decide +kernel
theorem d_GV_form_27 : decode c_GV_form 27 = .ok (.ifCond .ne 6, 3) := by decide +kernel
theorem d_GV_form_30 : decode c_GV_form 30 = .ok (.bipush (-4), 2) := by decide +kernel
theorem d_GV_form_32 : decode c_GV_form 32 = .ok (.ireturn, 1) := by decide +kernel
theorem d_GV_form_33 : decode c_GV_form 33 = .ok (.aload_n 0, 1) := by decide +kernel
theorem d_GV_form_34 : decode c_GV_form 34 = .ok (.dup, 1) := by decide +kernel
theorem d_GV_form_35 : decode c_GV_form 35 = .ok (.getfield 102, 3) := by decide +kernel
theorem d_GV_form_38 : decode c_GV_form 38 = .ok (.iconst 1, 1) := by decide +kernel
theorem d_GV_form_39 : decode c_GV_form 39 = .ok (.iadd, 1) := by decide +kernel
theorem d_GV_form_40 : decode c_GV_form 40 = .ok (.putfield 102, 3) := by decide +kernel
theorem d_GV_form_43 : decode c_GV_form 43 = .ok (.aload_n 0, 1) := by decide +kernel
theorem d_GV_form_44 : decode c_GV_form 44 = .ok (.getfield 21, 3) := by decide +kernel
theorem d_GV_form_47 : decode c_GV_form 47 = .ok (.aload_n 0, 1) := by decide +kernel
theorem d_GV_form_48 : decode c_GV_form 48 = .ok (.getfield 102, 3) := by decide +kernel
theorem d_GV_form_51 : decode c_GV_form 51 = .ok (.iload_n 1, 1) := by decide +kernel
theorem d_GV_form_52 : decode c_GV_form 52 = .ok (.iastore, 1) := by decide +kernel
theorem d_GV_form_53 : decode c_GV_form 53 = .ok (.iconst 0, 1) := by decide +kernel
theorem d_GV_form_54 : decode c_GV_form 54 = .ok (.istore_n 2, 1) := by decide +kernel
theorem d_GV_form_55 : decode c_GV_form 55 = .ok (.iload_n 2, 1) := by decide +kernel
theorem d_GV_form_56 : decode c_GV_form 56 = .ok (.iconst 4, 1) := by decide +kernel
theorem d_GV_form_57 : decode c_GV_form 57 = .ok (.if_icmp .ge 49, 3) := by decide +kernel
theorem d_GV_form_60 : decode c_GV_form 60 = .ok (.iload_n 1, 1) := by decide +kernel
theorem d_GV_form_61 : decode c_GV_form 61 = .ok (.iload_n 2, 1) := by decide +kernel
theorem d_GV_form_62 : decode c_GV_form 62 = .ok (.invokestatic 76, 3) := by decide +kernel
theorem d_GV_form_65 : decode c_GV_form 65 = .ok (.ifCond .eq 35, 3) := by decide +kernel
theorem d_GV_form_68 : decode c_GV_form 68 = .ok (.aload_n 0, 1) := by decide +kernel
theorem d_GV_form_69 : decode c_GV_form 69 = .ok (.getfield 25, 3) := by decide +kernel
theorem d_GV_form_72 : decode c_GV_form 72 = .ok (.aload_n 0, 1) := by decide +kernel
theorem d_GV_form_73 : decode c_GV_form 73 = .ok (.getfield 102, 3) := by decide +kernel
theorem d_GV_form_76 : decode c_GV_form 76 = .ok (.iload_n 2, 1) := by decide +kernel
theorem d_GV_form_77 : decode c_GV_form 77 = .ok (.invokestatic 108, 3) := by decide +kernel
theorem d_GV_form_80 : decode c_GV_form 80 = .ok (.aload_n 0, 1) := by decide +kernel
theorem d_GV_form_81 : decode c_GV_form 81 = .ok (.getfield 11, 3) := by decide +kernel
theorem d_GV_form_84 : decode c_GV_form 84 = .ok (.iload_n 2, 1) := by decide +kernel
theorem d_GV_form_85 : decode c_GV_form 85 = .ok (.aaload, 1) := by decide +kernel
theorem d_GV_form_86 : decode c_GV_form 86 = .ok (.getfield 80, 3) := by decide +kernel
theorem d_GV_form_89 : decode c_GV_form 89 = .ok (.iastore, 1) := by decide +kernel
theorem d_GV_form_90 : decode c_GV_form 90 = .ok (.aload_n 0, 1) := by decide +kernel
theorem d_GV_form_91 : decode c_GV_form 91 = .ok (.getfield 11, 3) := by decide +kernel
theorem d_GV_form_94 : decode c_GV_form 94 = .ok (.iload_n 2, 1) := by decide +kernel
theorem d_GV_form_95 : decode c_GV_form 95 = .ok (.aaload, 1) := by decide +kernel
theorem d_GV_form_96 : decode c_GV_form 96 = .ok (.iconst 0, 1) := by decide +kernel
theorem d_GV_form_97 : decode c_GV_form 97 = .ok (.putfield 86, 3) := by decide +kernel
theorem d_GV_form_100 : decode c_GV_form 100 = .ok (.iinc 2 1, 3) := by decide +kernel
theorem d_GV_form_103 : decode c_GV_form 103 = .ok (.goto (-48), 3) := by decide +kernel
theorem d_GV_form_106 : decode c_GV_form 106 = .ok (.aload_n 0, 1) := by decide +kernel
theorem d_GV_form_107 : decode c_GV_form 107 = .ok (.getfield 102, 3) := by decide +kernel
theorem d_GV_form_110 : decode c_GV_form 110 = .ok (.ireturn, 1) := by decide +kernel
theorem d_GV_tell_0 : decode c_GV_tell 0 = .ok (.iload_n 1, 1) := by decide +kernel
theorem d_GV_tell_1 : decode c_GV_tell 1 = .ok (.invokestatic 30, 3) := by decide +kernel
theorem d_GV_tell_4 : decode c_GV_tell 4 = .ok (.ifCond .ne 5, 3) := by decide +kernel
theorem d_GV_tell_7 : decode c_GV_tell 7 = .ok (.iconst (-1), 1) := by decide +kernel
theorem d_GV_tell_8 : decode c_GV_tell 8 = .ok (.ireturn, 1) := by decide +kernel
theorem d_GV_tell_9 : decode c_GV_tell 9 = .ok (.aload_n 0, 1) := by decide +kernel
theorem d_GV_tell_10 : decode c_GV_tell 10 = .ok (.iload_n 2, 1) := by decide +kernel
theorem d_GV_tell_11 : decode c_GV_tell 11 = .ok (.invokevirtual 111, 3) := by decide +kernel
theorem d_GV_tell_14 : decode c_GV_tell 14 = .ok (.ifCond .eq 16, 3) := by decide +kernel
theorem d_GV_tell_17 : decode c_GV_tell 17 = .ok (.aload_n 0, 1) := by decide +kernel
theorem d_GV_tell_18 : decode c_GV_tell 18 = .ok (.getfield 21, 3) := by decide +kernel
theorem d_GV_tell_21 : decode c_GV_tell 21 = .ok (.iload_n 2, 1) := by decide +kernel
theorem d_GV_tell_22 : decode c_GV_tell 22 = .ok (.iaload, 1) := by decide +kernel
theorem d_GV_tell_23 : decode c_GV_tell 23 = .ok (.iload_n 1, 1) := by decide +kernel
theorem d_GV_tell_24 : decode c_GV_tell 24 = .ok (.invokestatic 76, 3) := by decide +kernel
theorem d_GV_tell_27 : decode c_GV_tell 27 = .ok (.ifCond .ne 6, 3) := by decide +kernel
theorem d_GV_tell_30 : decode c_GV_tell 30 = .ok (.bipush (-2), 2) := by decide +kernel
theorem d_GV_tell_32 : decode c_GV_tell 32 = .ok (.ireturn, 1) := by decide +kernel
theorem d_GV_tell_33 : decode c_GV_tell 33 = .ok (.aload_n 0, 1) := by decide +kernel
theorem d_GV_tell_34 : decode c_GV_tell 34 = .ok (.getfield 11, 3) := by decide +kernel
theorem d_GV_tell_37 : decode c_GV_tell 37 = .ok (.iload_n 1, 1) := by decide +kernel
theorem d_GV_tell_38 : decode c_GV_tell 38 = .ok (.aaload, 1) := by decide +kernel
theorem d_GV_tell_39 : decode c_GV_tell 39 = .ok (.astore_n 3, 1) := by decide +kernel
theorem d_GV_tell_40 : decode c_GV_tell 40 = .ok (.aload_n 3, 1) := by decide +kernel
theorem d_GV_tell_41 : decode c_GV_tell 41 = .ok (.getfield 114, 3) := by decide +kernel
theorem d_GV_tell_44 : decode c_GV_tell 44 = .ok (.iload_n 2, 1) := by decide +kernel
theorem d_GV_tell_45 : decode c_GV_tell 45 = .ok (.if_icmp .lt 6, 3) := by decide +kernel
theorem d_GV_tell_48 : decode c_GV_tell 48 = .ok (.bipush (-3), 2) := by decide +kernel
theorem d_GV_tell_50 : decode c_GV_tell 50 = .ok (.ireturn, 1) := by decide +kernel
theorem d_GV_tell_51 : decode c_GV_tell 51 = .ok (.aload_n 0, 1) := by decide +kernel
theorem d_GV_tell_52 : decode c_GV_tell 52 = .ok (.getfield 25, 3) := by decide +kernel
theorem d_GV_tell_55 : decode c_GV_tell 55 = .ok (.iload_n 2, 1) := by decide +kernel
theorem d_GV_tell_56 : decode c_GV_tell 56 = .ok (.iload_n 1, 1) := by decide +kernel
theorem d_GV_tell_57 : decode c_GV_tell 57 = .ok (.invokestatic 108, 3) := by decide +kernel
theorem d_GV_tell_60 : decode c_GV_tell 60 = .ok (.iaload, 1) := by decide +kernel
theorem d_GV_tell_61 : decode c_GV_tell 61 = .ok (.aload_n 3, 1) := by decide +kernel
theorem d_GV_tell_62 : decode c_GV_tell 62 = .ok (.getfield 80, 3) := by decide +kernel
theorem d_GV_tell_65 : decode c_GV_tell 65 = .ok (.if_icmp .eq 6, 3) := by decide +kernel
theorem d_GV_tell_68 : decode c_GV_tell 68 = .ok (.bipush (-4), 2) := by decide +kernel
theorem d_GV_tell_70 : decode c_GV_tell 70 = .ok (.ireturn, 1) := by decide +kernel
theorem d_GV_tell_71 : decode c_GV_tell 71 = .ok (.aload_n 3, 1) := by decide +kernel
theorem d_GV_tell_72 : decode c_GV_tell 72 = .ok (.iload_n 2, 1) := by decide +kernel
theorem d_GV_tell_73 : decode c_GV_tell 73 = .ok (.putfield 114, 3) := by decide +kernel
theorem d_GV_tell_76 : decode c_GV_tell 76 = .ok (.aload_n 3, 1) := by decide +kernel
theorem d_GV_tell_77 : decode c_GV_tell 77 = .ok (.iload_n 2, 1) := by decide +kernel
theorem d_GV_tell_78 : decode c_GV_tell 78 = .ok (.putfield 89, 3) := by decide +kernel
theorem d_GV_tell_81 : decode c_GV_tell 81 = .ok (.iconst 0, 1) := by decide +kernel
theorem d_GV_tell_82 : decode c_GV_tell 82 = .ok (.ireturn, 1) := by decide +kernel
theorem d_GV_carry_0 : decode c_GV_carry 0 = .ok (.iload_n 1, 1) := by decide +kernel
theorem d_GV_carry_1 : decode c_GV_carry 1 = .ok (.iload_n 2, 1) := by decide +kernel
theorem d_GV_carry_2 : decode c_GV_carry 2 = .ok (.invokestatic 117, 3) := by decide +kernel
theorem d_GV_carry_5 : decode c_GV_carry 5 = .ok (.ifCond .ne 5, 3) := by decide +kernel
theorem d_GV_carry_8 : decode c_GV_carry 8 = .ok (.iconst (-1), 1) := by decide +kernel
theorem d_GV_carry_9 : decode c_GV_carry 9 = .ok (.ireturn, 1) := by decide +kernel
theorem d_GV_carry_10 : decode c_GV_carry 10 = .ok (.aload_n 0, 1) := by decide +kernel
theorem d_GV_carry_11 : decode c_GV_carry 11 = .ok (.getfield 17, 3) := by decide +kernel
theorem d_GV_carry_14 : decode c_GV_carry 14 = .ok (.iload_n 1, 1) := by decide +kernel
theorem d_GV_carry_15 : decode c_GV_carry 15 = .ok (.iload_n 2, 1) := by decide +kernel
theorem d_GV_carry_16 : decode c_GV_carry 16 = .ok (.invokestatic 120, 3) := by decide +kernel
theorem d_GV_carry_19 : decode c_GV_carry 19 = .ok (.aaload, 1) := by decide +kernel
theorem d_GV_carry_20 : decode c_GV_carry 20 = .ok (.invokevirtual 123, 3) := by decide +kernel
theorem d_GV_carry_23 : decode c_GV_carry 23 = .ok (.istore_n 3, 1) := by decide +kernel
theorem d_GV_carry_24 : decode c_GV_carry 24 = .ok (.iload_n 3, 1) := by decide +kernel
theorem d_GV_carry_25 : decode c_GV_carry 25 = .ok (.iconst (-1), 1) := by decide +kernel
theorem d_GV_carry_26 : decode c_GV_carry 26 = .ok (.if_icmp .ne 5, 3) := by decide +kernel
theorem d_GV_carry_29 : decode c_GV_carry 29 = .ok (.iconst 0, 1) := by decide +kernel
theorem d_GV_carry_30 : decode c_GV_carry 30 = .ok (.ireturn, 1) := by decide +kernel
theorem d_GV_carry_31 : decode c_GV_carry 31 = .ok (.iload_n 3, 1) := by decide +kernel
theorem d_GV_carry_32 : decode c_GV_carry 32 = .ok (.bipush 64, 2) := by decide +kernel
theorem d_GV_carry_34 : decode c_GV_carry 34 = .ok (.if_icmp .ge 23, 3) := by decide +kernel
theorem d_GV_carry_37 : decode c_GV_carry 37 = .ok (.aload_n 0, 1) := by decide +kernel
theorem d_GV_carry_38 : decode c_GV_carry 38 = .ok (.getfield 11, 3) := by decide +kernel
theorem d_GV_carry_41 : decode c_GV_carry 41 = .ok (.iload_n 2, 1) := by decide +kernel
theorem d_GV_carry_42 : decode c_GV_carry 42 = .ok (.aaload, 1) := by decide +kernel
theorem d_GV_carry_43 : decode c_GV_carry 43 = .ok (.iload_n 3, 1) := by decide +kernel
theorem d_GV_carry_44 : decode c_GV_carry 44 = .ok (.invokestatic 127, 3) := by decide +kernel
theorem d_GV_carry_47 : decode c_GV_carry 47 = .ok (.iload_n 1, 1) := by decide +kernel
theorem d_GV_carry_48 : decode c_GV_carry 48 = .ok (.iload_n 3, 1) := by decide +kernel
theorem d_GV_carry_49 : decode c_GV_carry 49 = .ok (.invokestatic 130, 3) := by decide +kernel
theorem d_GV_carry_52 : decode c_GV_carry 52 = .ok (.invokevirtual 62, 3) := by decide +kernel
theorem d_GV_carry_55 : decode c_GV_carry 55 = .ok (.iconst 1, 1) := by decide +kernel
theorem d_GV_carry_56 : decode c_GV_carry 56 = .ok (.ireturn, 1) := by decide +kernel
theorem d_GV_carry_57 : decode c_GV_carry 57 = .ok (.aload_n 0, 1) := by decide +kernel
theorem d_GV_carry_58 : decode c_GV_carry 58 = .ok (.aload_n 0, 1) := by decide +kernel
theorem d_GV_carry_59 : decode c_GV_carry 59 = .ok (.getfield 11, 3) := by decide +kernel
theorem d_GV_carry_62 : decode c_GV_carry 62 = .ok (.iload_n 2, 1) := by decide +kernel
theorem d_GV_carry_63 : decode c_GV_carry 63 = .ok (.aaload, 1) := by decide +kernel
theorem d_GV_carry_64 : decode c_GV_carry 64 = .ok (.iload_n 1, 1) := by decide +kernel
theorem d_GV_carry_65 : decode c_GV_carry 65 = .ok (.iload_n 3, 1) := by decide +kernel
theorem d_GV_carry_66 : decode c_GV_carry 66 = .ok (.bipush 64, 2) := by decide +kernel
theorem d_GV_carry_68 : decode c_GV_carry 68 = .ok (.isub, 1) := by decide +kernel
theorem d_GV_carry_69 : decode c_GV_carry 69 = .ok (.invokevirtual 133, 3) := by decide +kernel
theorem d_GV_carry_72 : decode c_GV_carry 72 = .ok (.iconst 2, 1) := by decide +kernel
theorem d_GV_carry_73 : decode c_GV_carry 73 = .ok (.ireturn, 1) := by decide +kernel
theorem d_GV_step_0 : decode c_GV_step 0 = .ok (.iload_n 1, 1) := by decide +kernel
theorem d_GV_step_1 : decode c_GV_step 1 = .ok (.invokestatic 30, 3) := by decide +kernel
theorem d_GV_step_4 : decode c_GV_step 4 = .ok (.ifCond .ne 5, 3) := by decide +kernel
theorem d_GV_step_7 : decode c_GV_step 7 = .ok (.iconst (-1), 1) := by decide +kernel
theorem d_GV_step_8 : decode c_GV_step 8 = .ok (.ireturn, 1) := by decide +kernel
theorem d_GV_step_9 : decode c_GV_step 9 = .ok (.aload_n 0, 1) := by decide +kernel
theorem d_GV_step_10 : decode c_GV_step 10 = .ok (.getfield 11, 3) := by decide +kernel
theorem d_GV_step_13 : decode c_GV_step 13 = .ok (.iload_n 1, 1) := by decide +kernel
theorem d_GV_step_14 : decode c_GV_step 14 = .ok (.aaload, 1) := by decide +kernel
theorem d_GV_step_15 : decode c_GV_step 15 = .ok (.astore_n 2, 1) := by decide +kernel
theorem d_GV_step_16 : decode c_GV_step 16 = .ok (.aload_n 2, 1) := by decide +kernel
theorem d_GV_step_17 : decode c_GV_step 17 = .ok (.getfield 34, 3) := by decide +kernel
theorem d_GV_step_20 : decode c_GV_step 20 = .ok (.ifCond .ne 11, 3) := by decide +kernel
theorem d_GV_step_23 : decode c_GV_step 23 = .ok (.aload_n 0, 1) := by decide +kernel
theorem d_GV_step_24 : decode c_GV_step 24 = .ok (.aload_n 2, 1) := by decide +kernel
theorem d_GV_step_25 : decode c_GV_step 25 = .ok (.ldc 137, 2) := by decide +kernel
theorem d_GV_step_27 : decode c_GV_step 27 = .ok (.invokevirtual 138, 3) := by decide +kernel
theorem d_GV_step_30 : decode c_GV_step 30 = .ok (.ireturn, 1) := by decide +kernel
theorem d_GV_step_31 : decode c_GV_step 31 = .ok (.aload_n 2, 1) := by decide +kernel
theorem d_GV_step_32 : decode c_GV_step 32 = .ok (.getfield 89, 3) := by decide +kernel
theorem d_GV_step_35 : decode c_GV_step 35 = .ok (.ifCond .ne 5, 3) := by decide +kernel
theorem d_GV_step_38 : decode c_GV_step 38 = .ok (.iconst 0, 1) := by decide +kernel
theorem d_GV_step_39 : decode c_GV_step 39 = .ok (.ireturn, 1) := by decide +kernel
theorem d_GV_step_40 : decode c_GV_step 40 = .ok (.aload_n 0, 1) := by decide +kernel
theorem d_GV_step_41 : decode c_GV_step 41 = .ok (.getfield 21, 3) := by decide +kernel
theorem d_GV_step_44 : decode c_GV_step 44 = .ok (.aload_n 2, 1) := by decide +kernel
theorem d_GV_step_45 : decode c_GV_step 45 = .ok (.getfield 89, 3) := by decide +kernel
theorem d_GV_step_48 : decode c_GV_step 48 = .ok (.iaload, 1) := by decide +kernel
theorem d_GV_step_49 : decode c_GV_step 49 = .ok (.aload_n 0, 1) := by decide +kernel
theorem d_GV_step_50 : decode c_GV_step 50 = .ok (.iload_n 1, 1) := by decide +kernel
theorem d_GV_step_51 : decode c_GV_step 51 = .ok (.invokevirtual 66, 3) := by decide +kernel
theorem d_GV_step_54 : decode c_GV_step 54 = .ok (.iand, 1) := by decide +kernel
theorem d_GV_step_55 : decode c_GV_step 55 = .ok (.istore_n 3, 1) := by decide +kernel
theorem d_GV_step_56 : decode c_GV_step 56 = .ok (.aload_n 0, 1) := by decide +kernel
theorem d_GV_step_57 : decode c_GV_step 57 = .ok (.aload_n 2, 1) := by decide +kernel
theorem d_GV_step_58 : decode c_GV_step 58 = .ok (.iload_n 3, 1) := by decide +kernel
theorem d_GV_step_59 : decode c_GV_step 59 = .ok (.invokevirtual 142, 3) := by decide +kernel
theorem d_GV_step_62 : decode c_GV_step 62 = .ok (.ifCond .ne 5, 3) := by decide +kernel
theorem d_GV_step_65 : decode c_GV_step 65 = .ok (.iconst 0, 1) := by decide +kernel
theorem d_GV_step_66 : decode c_GV_step 66 = .ok (.ireturn, 1) := by decide +kernel
theorem d_GV_step_67 : decode c_GV_step 67 = .ok (.aload_n 0, 1) := by decide +kernel
theorem d_GV_step_68 : decode c_GV_step 68 = .ok (.aload_n 2, 1) := by decide +kernel
theorem d_GV_step_69 : decode c_GV_step 69 = .ok (.iload_n 3, 1) := by decide +kernel
theorem d_GV_step_70 : decode c_GV_step 70 = .ok (.invokevirtual 146, 3) := by decide +kernel
theorem d_GV_step_73 : decode c_GV_step 73 = .ok (.istore 4, 2) := by decide +kernel
theorem d_GV_step_75 : decode c_GV_step 75 = .ok (.aload_n 0, 1) := by decide +kernel
theorem d_GV_step_76 : decode c_GV_step 76 = .ok (.aload_n 2, 1) := by decide +kernel
theorem d_GV_step_77 : decode c_GV_step 77 = .ok (.getfield 89, 3) := by decide +kernel
theorem d_GV_step_80 : decode c_GV_step 80 = .ok (.iload 4, 2) := by decide +kernel
theorem d_GV_step_82 : decode c_GV_step 82 = .ok (.invokevirtual 149, 3) := by decide +kernel
theorem d_GV_step_85 : decode c_GV_step 85 = .ok (.istore 5, 2) := by decide +kernel
theorem d_GV_step_87 : decode c_GV_step 87 = .ok (.aload_n 0, 1) := by decide +kernel
theorem d_GV_step_88 : decode c_GV_step 88 = .ok (.aload_n 2, 1) := by decide +kernel
theorem d_GV_step_89 : decode c_GV_step 89 = .ok (.iload 5, 2) := by decide +kernel
theorem d_GV_step_91 : decode c_GV_step 91 = .ok (.invokevirtual 138, 3) := by decide +kernel
theorem d_GV_step_94 : decode c_GV_step 94 = .ok (.iconst 1, 1) := by decide +kernel
theorem d_GV_step_95 : decode c_GV_step 95 = .ok (.if_icmp .ne 5, 3) := by decide +kernel
theorem d_GV_step_98 : decode c_GV_step 98 = .ok (.iconst 1, 1) := by decide +kernel
theorem d_GV_step_99 : decode c_GV_step 99 = .ok (.ireturn, 1) := by decide +kernel
theorem d_GV_step_100 : decode c_GV_step 100 = .ok (.aload_n 2, 1) := by decide +kernel
theorem d_GV_step_101 : decode c_GV_step 101 = .ok (.getfield 55, 3) := by decide +kernel
theorem d_GV_step_104 : decode c_GV_step 104 = .ok (.iload 5, 2) := by decide +kernel
theorem d_GV_step_106 : decode c_GV_step 106 = .ok (.if_icmp .eq 5, 3) := by decide +kernel
theorem d_GV_step_109 : decode c_GV_step 109 = .ok (.iconst 0, 1) := by decide +kernel
theorem d_GV_step_110 : decode c_GV_step 110 = .ok (.ireturn, 1) := by decide +kernel
theorem d_GV_step_111 : decode c_GV_step 111 = .ok (.aload_n 2, 1) := by decide +kernel
theorem d_GV_step_112 : decode c_GV_step 112 = .ok (.iconst 2, 1) := by decide +kernel
theorem d_GV_step_113 : decode c_GV_step 113 = .ok (.aload_n 2, 1) := by decide +kernel
theorem d_GV_step_114 : decode c_GV_step 114 = .ok (.getfield 89, 3) := by decide +kernel
theorem d_GV_step_117 : decode c_GV_step 117 = .ok (.aload_n 0, 1) := by decide +kernel
theorem d_GV_step_118 : decode c_GV_step 118 = .ok (.getfield 21, 3) := by decide +kernel
theorem d_GV_step_121 : decode c_GV_step 121 = .ok (.aload_n 2, 1) := by decide +kernel
theorem d_GV_step_122 : decode c_GV_step 122 = .ok (.getfield 89, 3) := by decide +kernel
theorem d_GV_step_125 : decode c_GV_step 125 = .ok (.iaload, 1) := by decide +kernel
theorem d_GV_step_126 : decode c_GV_step 126 = .ok (.iload 4, 2) := by decide +kernel
theorem d_GV_step_128 : decode c_GV_step 128 = .ok (.invokevirtual 152, 3) := by decide +kernel
theorem d_GV_step_131 : decode c_GV_step 131 = .ok (.aload_n 2, 1) := by decide +kernel
theorem d_GV_step_132 : decode c_GV_step 132 = .ok (.invokevirtual 156, 3) := by decide +kernel
theorem d_GV_step_135 : decode c_GV_step 135 = .ok (.iconst 2, 1) := by decide +kernel
theorem d_GV_step_136 : decode c_GV_step 136 = .ok (.ireturn, 1) := by decide +kernel
theorem d_GV_event_0 : decode c_GV_event 0 = .ok (.iload_n 1, 1) := by decide +kernel
theorem d_GV_event_1 : decode c_GV_event 1 = .ok (.invokestatic 30, 3) := by decide +kernel
theorem d_GV_event_4 : decode c_GV_event 4 = .ok (.ifCond .eq 12, 3) := by decide +kernel
theorem d_GV_event_7 : decode c_GV_event 7 = .ok (.iload_n 2, 1) := by decide +kernel
theorem d_GV_event_8 : decode c_GV_event 8 = .ok (.ifCond .lt 8, 3) := by decide +kernel
theorem d_GV_event_11 : decode c_GV_event 11 = .ok (.iload_n 2, 1) := by decide +kernel
theorem d_GV_event_12 : decode c_GV_event 12 = .ok (.iconst 3, 1) := by decide +kernel
theorem d_GV_event_13 : decode c_GV_event 13 = .ok (.if_icmp .le 5, 3) := by decide +kernel
theorem d_GV_event_16 : decode c_GV_event 16 = .ok (.iconst 0, 1) := by decide +kernel
theorem d_GV_event_17 : decode c_GV_event 17 = .ok (.ireturn, 1) := by decide +kernel
theorem d_GV_event_18 : decode c_GV_event 18 = .ok (.aload_n 0, 1) := by decide +kernel
theorem d_GV_event_19 : decode c_GV_event 19 = .ok (.getfield 11, 3) := by decide +kernel
theorem d_GV_event_22 : decode c_GV_event 22 = .ok (.iload_n 1, 1) := by decide +kernel
theorem d_GV_event_23 : decode c_GV_event 23 = .ok (.aaload, 1) := by decide +kernel
theorem d_GV_event_24 : decode c_GV_event 24 = .ok (.getfield 159, 3) := by decide +kernel
theorem d_GV_event_27 : decode c_GV_event 27 = .ok (.iload_n 2, 1) := by decide +kernel
theorem d_GV_event_28 : decode c_GV_event 28 = .ok (.iaload, 1) := by decide +kernel
theorem d_GV_event_29 : decode c_GV_event 29 = .ok (.ireturn, 1) := by decide +kernel
theorem d_GV_view_0 : decode c_GV_view 0 = .ok (.iload_n 1, 1) := by decide +kernel
theorem d_GV_view_1 : decode c_GV_view 1 = .ok (.invokestatic 30, 3) := by decide +kernel
theorem d_GV_view_4 : decode c_GV_view 4 = .ok (.ifCond .eq 15, 3) := by decide +kernel
theorem d_GV_view_7 : decode c_GV_view 7 = .ok (.aload_n 0, 1) := by decide +kernel
theorem d_GV_view_8 : decode c_GV_view 8 = .ok (.getfield 11, 3) := by decide +kernel
theorem d_GV_view_11 : decode c_GV_view 11 = .ok (.iload_n 1, 1) := by decide +kernel
theorem d_GV_view_12 : decode c_GV_view 12 = .ok (.aaload, 1) := by decide +kernel
theorem d_GV_view_13 : decode c_GV_view 13 = .ok (.getfield 42, 3) := by decide +kernel
theorem d_GV_view_16 : decode c_GV_view 16 = .ok (.goto 4, 3) := by decide +kernel
theorem d_GV_view_19 : decode c_GV_view 19 = .ok (.iconst (-1), 1) := by decide +kernel
theorem d_GV_view_20 : decode c_GV_view 20 = .ok (.ireturn, 1) := by decide +kernel
theorem d_GV_members_0 : decode c_GV_members 0 = .ok (.aload_n 0, 1) := by decide +kernel
theorem d_GV_members_1 : decode c_GV_members 1 = .ok (.iload_n 1, 1) := by decide +kernel
theorem d_GV_members_2 : decode c_GV_members 2 = .ok (.invokevirtual 111, 3) := by decide +kernel
theorem d_GV_members_5 : decode c_GV_members 5 = .ok (.ifCond .eq 12, 3) := by decide +kernel
theorem d_GV_members_8 : decode c_GV_members 8 = .ok (.aload_n 0, 1) := by decide +kernel
theorem d_GV_members_9 : decode c_GV_members 9 = .ok (.getfield 21, 3) := by decide +kernel
theorem d_GV_members_12 : decode c_GV_members 12 = .ok (.iload_n 1, 1) := by decide +kernel
theorem d_GV_members_13 : decode c_GV_members 13 = .ok (.iaload, 1) := by decide +kernel
theorem d_GV_members_14 : decode c_GV_members 14 = .ok (.goto 4, 3) := by decide +kernel
theorem d_GV_members_17 : decode c_GV_members 17 = .ok (.iconst 0, 1) := by decide +kernel
theorem d_GV_members_18 : decode c_GV_members 18 = .ok (.ireturn, 1) := by decide +kernel
theorem d_GV_start_0 : decode c_GV_start 0 = .ok (.aload_n 0, 1) := by decide +kernel
theorem d_GV_start_1 : decode c_GV_start 1 = .ok (.iload_n 1, 1) := by decide +kernel
theorem d_GV_start_2 : decode c_GV_start 2 = .ok (.invokevirtual 111, 3) := by decide +kernel
theorem d_GV_start_5 : decode c_GV_start 5 = .ok (.ifCond .eq 23, 3) := by decide +kernel
theorem d_GV_start_8 : decode c_GV_start 8 = .ok (.iload_n 2, 1) := by decide +kernel
theorem d_GV_start_9 : decode c_GV_start 9 = .ok (.invokestatic 30, 3) := by decide +kernel
theorem d_GV_start_12 : decode c_GV_start 12 = .ok (.ifCond .eq 16, 3) := by decide +kernel
theorem d_GV_start_15 : decode c_GV_start 15 = .ok (.aload_n 0, 1) := by decide +kernel
theorem d_GV_start_16 : decode c_GV_start 16 = .ok (.getfield 25, 3) := by decide +kernel
theorem d_GV_start_19 : decode c_GV_start 19 = .ok (.iload_n 1, 1) := by decide +kernel
theorem d_GV_start_20 : decode c_GV_start 20 = .ok (.iload_n 2, 1) := by decide +kernel
theorem d_GV_start_21 : decode c_GV_start 21 = .ok (.invokestatic 108, 3) := by decide +kernel
theorem d_GV_start_24 : decode c_GV_start 24 = .ok (.iaload, 1) := by decide +kernel
theorem d_GV_start_25 : decode c_GV_start 25 = .ok (.goto 4, 3) := by decide +kernel
theorem d_GV_start_28 : decode c_GV_start 28 = .ok (.iconst 0, 1) := by decide +kernel
theorem d_GV_start_29 : decode c_GV_start 29 = .ok (.ireturn, 1) := by decide +kernel
theorem d_GV_blocked_0 : decode c_GV_blocked 0 = .ok (.iload_n 1, 1) := by decide +kernel
theorem d_GV_blocked_1 : decode c_GV_blocked 1 = .ok (.invokestatic 30, 3) := by decide +kernel
theorem d_GV_blocked_4 : decode c_GV_blocked 4 = .ok (.ifCond .eq 19, 3) := by decide +kernel
theorem d_GV_blocked_7 : decode c_GV_blocked 7 = .ok (.aload_n 0, 1) := by decide +kernel
theorem d_GV_blocked_8 : decode c_GV_blocked 8 = .ok (.getfield 11, 3) := by decide +kernel
theorem d_GV_blocked_11 : decode c_GV_blocked 11 = .ok (.iload_n 1, 1) := by decide +kernel
theorem d_GV_blocked_12 : decode c_GV_blocked 12 = .ok (.aaload, 1) := by decide +kernel
theorem d_GV_blocked_13 : decode c_GV_blocked 13 = .ok (.getfield 34, 3) := by decide +kernel
theorem d_GV_blocked_16 : decode c_GV_blocked 16 = .ok (.ifCond .eq 7, 3) := by decide +kernel
theorem d_GV_blocked_19 : decode c_GV_blocked 19 = .ok (.iconst 1, 1) := by decide +kernel
theorem d_GV_blocked_20 : decode c_GV_blocked 20 = .ok (.goto 4, 3) := by decide +kernel
theorem d_GV_blocked_23 : decode c_GV_blocked 23 = .ok (.iconst 0, 1) := by decide +kernel
theorem d_GV_blocked_24 : decode c_GV_blocked 24 = .ok (.ireturn, 1) := by decide +kernel
theorem d_GV_pending_0 : decode c_GV_pending 0 = .ok (.iload_n 1, 1) := by decide +kernel
theorem d_GV_pending_1 : decode c_GV_pending 1 = .ok (.invokestatic 30, 3) := by decide +kernel
theorem d_GV_pending_4 : decode c_GV_pending 4 = .ok (.ifCond .eq 15, 3) := by decide +kernel
theorem d_GV_pending_7 : decode c_GV_pending 7 = .ok (.aload_n 0, 1) := by decide +kernel
theorem d_GV_pending_8 : decode c_GV_pending 8 = .ok (.getfield 11, 3) := by decide +kernel
theorem d_GV_pending_11 : decode c_GV_pending 11 = .ok (.iload_n 1, 1) := by decide +kernel
theorem d_GV_pending_12 : decode c_GV_pending 12 = .ok (.aaload, 1) := by decide +kernel
theorem d_GV_pending_13 : decode c_GV_pending 13 = .ok (.getfield 89, 3) := by decide +kernel
theorem d_GV_pending_16 : decode c_GV_pending 16 = .ok (.goto 4, 3) := by decide +kernel
theorem d_GV_pending_19 : decode c_GV_pending 19 = .ok (.iconst (-1), 1) := by decide +kernel
theorem d_GV_pending_20 : decode c_GV_pending 20 = .ok (.ireturn, 1) := by decide +kernel
theorem d_GV_changes_0 : decode c_GV_changes 0 = .ok (.iload_n 1, 1) := by decide +kernel
theorem d_GV_changes_1 : decode c_GV_changes 1 = .ok (.invokestatic 30, 3) := by decide +kernel
theorem d_GV_changes_4 : decode c_GV_changes 4 = .ok (.ifCond .eq 15, 3) := by decide +kernel
theorem d_GV_changes_7 : decode c_GV_changes 7 = .ok (.aload_n 0, 1) := by decide +kernel
theorem d_GV_changes_8 : decode c_GV_changes 8 = .ok (.getfield 11, 3) := by decide +kernel
theorem d_GV_changes_11 : decode c_GV_changes 11 = .ok (.iload_n 1, 1) := by decide +kernel
theorem d_GV_changes_12 : decode c_GV_changes 12 = .ok (.aaload, 1) := by decide +kernel
theorem d_GV_changes_13 : decode c_GV_changes 13 = .ok (.getfield 80, 3) := by decide +kernel
theorem d_GV_changes_16 : decode c_GV_changes 16 = .ok (.goto 4, 3) := by decide +kernel
theorem d_GV_changes_19 : decode c_GV_changes 19 = .ok (.iconst (-1), 1) := by decide +kernel
theorem d_GV_changes_20 : decode c_GV_changes 20 = .ok (.ireturn, 1) := by decide +kernel
theorem d_GV_sent_0 : decode c_GV_sent 0 = .ok (.iload_n 1, 1) := by decide +kernel
theorem d_GV_sent_1 : decode c_GV_sent 1 = .ok (.invokestatic 30, 3) := by decide +kernel
theorem d_GV_sent_4 : decode c_GV_sent 4 = .ok (.ifCond .eq 15, 3) := by decide +kernel
theorem d_GV_sent_7 : decode c_GV_sent 7 = .ok (.aload_n 0, 1) := by decide +kernel
theorem d_GV_sent_8 : decode c_GV_sent 8 = .ok (.getfield 11, 3) := by decide +kernel
theorem d_GV_sent_11 : decode c_GV_sent 11 = .ok (.iload_n 1, 1) := by decide +kernel
theorem d_GV_sent_12 : decode c_GV_sent 12 = .ok (.aaload, 1) := by decide +kernel
theorem d_GV_sent_13 : decode c_GV_sent 13 = .ok (.getfield 38, 3) := by decide +kernel
theorem d_GV_sent_16 : decode c_GV_sent 16 = .ok (.goto 4, 3) := by decide +kernel
theorem d_GV_sent_19 : decode c_GV_sent 19 = .ok (.iconst (-1), 1) := by decide +kernel
theorem d_GV_sent_20 : decode c_GV_sent 20 = .ok (.ireturn, 1) := by decide +kernel
theorem d_GV_delivered_0 : decode c_GV_delivered 0 = .ok (.iload_n 1, 1) := by decide +kernel
theorem d_GV_delivered_1 : decode c_GV_delivered 1 = .ok (.invokestatic 30, 3) := by decide +kernel
theorem d_GV_delivered_4 : decode c_GV_delivered 4 = .ok (.ifCond .eq 10, 3) := by decide +kernel
theorem d_GV_delivered_7 : decode c_GV_delivered 7 = .ok (.iload_n 2, 1) := by decide +kernel
theorem d_GV_delivered_8 : decode c_GV_delivered 8 = .ok (.invokestatic 30, 3) := by decide +kernel
theorem d_GV_delivered_11 : decode c_GV_delivered 11 = .ok (.ifCond .ne 5, 3) := by decide +kernel
theorem d_GV_delivered_14 : decode c_GV_delivered 14 = .ok (.iconst (-1), 1) := by decide +kernel
theorem d_GV_delivered_15 : decode c_GV_delivered 15 = .ok (.ireturn, 1) := by decide +kernel
theorem d_GV_delivered_16 : decode c_GV_delivered 16 = .ok (.aload_n 0, 1) := by decide +kernel
theorem d_GV_delivered_17 : decode c_GV_delivered 17 = .ok (.getfield 11, 3) := by decide +kernel
theorem d_GV_delivered_20 : decode c_GV_delivered 20 = .ok (.iload_n 1, 1) := by decide +kernel
theorem d_GV_delivered_21 : decode c_GV_delivered 21 = .ok (.aaload, 1) := by decide +kernel
theorem d_GV_delivered_22 : decode c_GV_delivered 22 = .ok (.getfield 55, 3) := by decide +kernel
theorem d_GV_delivered_25 : decode c_GV_delivered 25 = .ok (.iload_n 2, 1) := by decide +kernel
theorem d_GV_delivered_26 : decode c_GV_delivered 26 = .ok (.invokestatic 162, 3) := by decide +kernel
theorem d_GV_delivered_29 : decode c_GV_delivered 29 = .ok (.ireturn, 1) := by decide +kernel
theorem d_GV_known_0 : decode c_GV_known 0 = .ok (.iload_n 1, 1) := by decide +kernel
theorem d_GV_known_1 : decode c_GV_known 1 = .ok (.invokestatic 30, 3) := by decide +kernel
theorem d_GV_known_4 : decode c_GV_known 4 = .ok (.ifCond .eq 10, 3) := by decide +kernel
theorem d_GV_known_7 : decode c_GV_known 7 = .ok (.iload_n 2, 1) := by decide +kernel
theorem d_GV_known_8 : decode c_GV_known 8 = .ok (.invokestatic 30, 3) := by decide +kernel
theorem d_GV_known_11 : decode c_GV_known 11 = .ok (.ifCond .ne 5, 3) := by decide +kernel
theorem d_GV_known_14 : decode c_GV_known 14 = .ok (.iconst (-1), 1) := by decide +kernel
theorem d_GV_known_15 : decode c_GV_known 15 = .ok (.ireturn, 1) := by decide +kernel
theorem d_GV_known_16 : decode c_GV_known 16 = .ok (.aload_n 0, 1) := by decide +kernel
theorem d_GV_known_17 : decode c_GV_known 17 = .ok (.getfield 11, 3) := by decide +kernel
theorem d_GV_known_20 : decode c_GV_known 20 = .ok (.iload_n 1, 1) := by decide +kernel
theorem d_GV_known_21 : decode c_GV_known 21 = .ok (.aaload, 1) := by decide +kernel
theorem d_GV_known_22 : decode c_GV_known 22 = .ok (.iload_n 2, 1) := by decide +kernel
theorem d_GV_known_23 : decode c_GV_known 23 = .ok (.invokevirtual 165, 3) := by decide +kernel
theorem d_GV_known_26 : decode c_GV_known 26 = .ok (.ireturn, 1) := by decide +kernel
theorem d_GV_waiting_0 : decode c_GV_waiting 0 = .ok (.iload_n 1, 1) := by decide +kernel
theorem d_GV_waiting_1 : decode c_GV_waiting 1 = .ok (.iload_n 2, 1) := by decide +kernel
theorem d_GV_waiting_2 : decode c_GV_waiting 2 = .ok (.invokestatic 117, 3) := by decide +kernel
theorem d_GV_waiting_5 : decode c_GV_waiting 5 = .ok (.ifCond .eq 19, 3) := by decide +kernel
theorem d_GV_waiting_8 : decode c_GV_waiting 8 = .ok (.aload_n 0, 1) := by decide +kernel
theorem d_GV_waiting_9 : decode c_GV_waiting 9 = .ok (.getfield 17, 3) := by decide +kernel
theorem d_GV_waiting_12 : decode c_GV_waiting 12 = .ok (.iload_n 1, 1) := by decide +kernel
theorem d_GV_waiting_13 : decode c_GV_waiting 13 = .ok (.iload_n 2, 1) := by decide +kernel
theorem d_GV_waiting_14 : decode c_GV_waiting 14 = .ok (.invokestatic 120, 3) := by decide +kernel
theorem d_GV_waiting_17 : decode c_GV_waiting 17 = .ok (.aaload, 1) := by decide +kernel
theorem d_GV_waiting_18 : decode c_GV_waiting 18 = .ok (.invokevirtual 168, 3) := by decide +kernel
theorem d_GV_waiting_21 : decode c_GV_waiting 21 = .ok (.goto 4, 3) := by decide +kernel
theorem d_GV_waiting_24 : decode c_GV_waiting 24 = .ok (.iconst (-1), 1) := by decide +kernel
theorem d_GV_waiting_25 : decode c_GV_waiting 25 = .ok (.ireturn, 1) := by decide +kernel
theorem d_GV_canForm_0 : decode c_GV_canForm 0 = .ok (.iconst 0, 1) := by decide +kernel
theorem d_GV_canForm_1 : decode c_GV_canForm 1 = .ok (.istore_n 2, 1) := by decide +kernel
theorem d_GV_canForm_2 : decode c_GV_canForm 2 = .ok (.iload_n 2, 1) := by decide +kernel
theorem d_GV_canForm_3 : decode c_GV_canForm 3 = .ok (.iconst 4, 1) := by decide +kernel
theorem d_GV_canForm_4 : decode c_GV_canForm 4 = .ok (.if_icmp .ge 47, 3) := by decide +kernel
theorem d_GV_canForm_7 : decode c_GV_canForm 7 = .ok (.iload_n 1, 1) := by decide +kernel
theorem d_GV_canForm_8 : decode c_GV_canForm 8 = .ok (.iload_n 2, 1) := by decide +kernel
theorem d_GV_canForm_9 : decode c_GV_canForm 9 = .ok (.invokestatic 76, 3) := by decide +kernel
theorem d_GV_canForm_12 : decode c_GV_canForm 12 = .ok (.ifCond .eq 33, 3) := by decide +kernel
theorem d_GV_canForm_15 : decode c_GV_canForm 15 = .ok (.aload_n 0, 1) := by decide +kernel
theorem d_GV_canForm_16 : decode c_GV_canForm 16 = .ok (.getfield 11, 3) := by decide +kernel
theorem d_GV_canForm_19 : decode c_GV_canForm 19 = .ok (.iload_n 2, 1) := by decide +kernel
theorem d_GV_canForm_20 : decode c_GV_canForm 20 = .ok (.aaload, 1) := by decide +kernel
theorem d_GV_canForm_21 : decode c_GV_canForm 21 = .ok (.getfield 86, 3) := by decide +kernel
theorem d_GV_canForm_24 : decode c_GV_canForm 24 = .ok (.ifCond .eq 19, 3) := by decide +kernel
theorem d_GV_canForm_27 : decode c_GV_canForm 27 = .ok (.iload_n 1, 1) := by decide +kernel
theorem d_GV_canForm_28 : decode c_GV_canForm 28 = .ok (.aload_n 0, 1) := by decide +kernel
theorem d_GV_canForm_29 : decode c_GV_canForm 29 = .ok (.getfield 11, 3) := by decide +kernel
theorem d_GV_canForm_32 : decode c_GV_canForm 32 = .ok (.iload_n 2, 1) := by decide +kernel
theorem d_GV_canForm_33 : decode c_GV_canForm 33 = .ok (.aaload, 1) := by decide +kernel
theorem d_GV_canForm_34 : decode c_GV_canForm 34 = .ok (.getfield 83, 3) := by decide +kernel
theorem d_GV_canForm_37 : decode c_GV_canForm 37 = .ok (.iconst (-1), 1) := by decide +kernel
theorem d_GV_canForm_38 : decode c_GV_canForm 38 = .ok (.ixor, 1) := by decide +kernel
theorem d_GV_canForm_39 : decode c_GV_canForm 39 = .ok (.iand, 1) := by decide +kernel
theorem d_GV_canForm_40 : decode c_GV_canForm 40 = .ok (.ifCond .eq 5, 3) := by decide +kernel
theorem d_GV_canForm_43 : decode c_GV_canForm 43 = .ok (.iconst 0, 1) := by decide +kernel
theorem d_GV_canForm_44 : decode c_GV_canForm 44 = .ok (.ireturn, 1) := by decide +kernel
theorem d_GV_canForm_45 : decode c_GV_canForm 45 = .ok (.iinc 2 1, 3) := by decide +kernel
theorem d_GV_canForm_48 : decode c_GV_canForm 48 = .ok (.goto (-46), 3) := by decide +kernel
theorem d_GV_canForm_51 : decode c_GV_canForm 51 = .ok (.iconst 1, 1) := by decide +kernel
theorem d_GV_canForm_52 : decode c_GV_canForm 52 = .ok (.ireturn, 1) := by decide +kernel
theorem d_GV_putToOthers_0 : decode c_GV_putToOthers 0 = .ok (.iconst 0, 1) := by decide +kernel
theorem d_GV_putToOthers_1 : decode c_GV_putToOthers 1 = .ok (.istore 4, 2) := by decide +kernel
theorem d_GV_putToOthers_3 : decode c_GV_putToOthers 3 = .ok (.iload 4, 2) := by decide +kernel
theorem d_GV_putToOthers_5 : decode c_GV_putToOthers 5 = .ok (.iconst 4, 1) := by decide +kernel
theorem d_GV_putToOthers_6 : decode c_GV_putToOthers 6 = .ok (.if_icmp .ge 39, 3) := by decide +kernel
theorem d_GV_putToOthers_9 : decode c_GV_putToOthers 9 = .ok (.iload 4, 2) := by decide +kernel
theorem d_GV_putToOthers_11 : decode c_GV_putToOthers 11 = .ok (.iload_n 1, 1) := by decide +kernel
theorem d_GV_putToOthers_12 : decode c_GV_putToOthers 12 = .ok (.if_icmp .eq 27, 3) := by decide +kernel
theorem d_GV_putToOthers_15 : decode c_GV_putToOthers 15 = .ok (.iload_n 2, 1) := by decide +kernel
theorem d_GV_putToOthers_16 : decode c_GV_putToOthers 16 = .ok (.iload 4, 2) := by decide +kernel
theorem d_GV_putToOthers_18 : decode c_GV_putToOthers 18 = .ok (.invokestatic 76, 3) := by decide +kernel
theorem d_GV_putToOthers_21 : decode c_GV_putToOthers 21 = .ok (.ifCond .eq 18, 3) := by decide +kernel
theorem d_GV_putToOthers_24 : decode c_GV_putToOthers 24 = .ok (.aload_n 0, 1) := by decide +kernel
theorem d_GV_putToOthers_25 : decode c_GV_putToOthers 25 = .ok (.getfield 17, 3) := by decide +kernel
theorem d_GV_putToOthers_28 : decode c_GV_putToOthers 28 = .ok (.iload_n 1, 1) := by decide +kernel
theorem d_GV_putToOthers_29 : decode c_GV_putToOthers 29 = .ok (.iload 4, 2) := by decide +kernel
theorem d_GV_putToOthers_31 : decode c_GV_putToOthers 31 = .ok (.invokestatic 120, 3) := by decide +kernel
theorem d_GV_putToOthers_34 : decode c_GV_putToOthers 34 = .ok (.aaload, 1) := by decide +kernel
theorem d_GV_putToOthers_35 : decode c_GV_putToOthers 35 = .ok (.iload_n 3, 1) := by decide +kernel
theorem d_GV_putToOthers_36 : decode c_GV_putToOthers 36 = .ok (.invokevirtual 171, 3) := by decide +kernel
theorem d_GV_putToOthers_39 : decode c_GV_putToOthers 39 = .ok (.iinc 4 1, 3) := by decide +kernel
theorem d_GV_putToOthers_42 : decode c_GV_putToOthers 42 = .ok (.goto (-39), 3) := by decide +kernel
theorem d_GV_putToOthers_45 : decode c_GV_putToOthers 45 = .ok (.return_, 1) := by decide +kernel
theorem d_GV_receiveSync_0 : decode c_GV_receiveSync 0 = .ok (.aload_n 1, 1) := by decide +kernel
theorem d_GV_receiveSync_1 : decode c_GV_receiveSync 1 = .ok (.iload_n 2, 1) := by decide +kernel
theorem d_GV_receiveSync_2 : decode c_GV_receiveSync 2 = .ok (.iload_n 3, 1) := by decide +kernel
theorem d_GV_receiveSync_3 : decode c_GV_receiveSync 3 = .ok (.invokevirtual 98, 3) := by decide +kernel
theorem d_GV_receiveSync_6 : decode c_GV_receiveSync 6 = .ok (.aload_n 0, 1) := by decide +kernel
theorem d_GV_receiveSync_7 : decode c_GV_receiveSync 7 = .ok (.getfield 11, 3) := by decide +kernel
theorem d_GV_receiveSync_10 : decode c_GV_receiveSync 10 = .ok (.iload_n 2, 1) := by decide +kernel
theorem d_GV_receiveSync_11 : decode c_GV_receiveSync 11 = .ok (.aaload, 1) := by decide +kernel
theorem d_GV_receiveSync_12 : decode c_GV_receiveSync 12 = .ok (.getfield 92, 3) := by decide +kernel
theorem d_GV_receiveSync_15 : decode c_GV_receiveSync 15 = .ok (.iload_n 3, 1) := by decide +kernel
theorem d_GV_receiveSync_16 : decode c_GV_receiveSync 16 = .ok (.iaload, 1) := by decide +kernel
theorem d_GV_receiveSync_17 : decode c_GV_receiveSync 17 = .ok (.istore 4, 2) := by decide +kernel
theorem d_GV_receiveSync_19 : decode c_GV_receiveSync 19 = .ok (.iload 4, 2) := by decide +kernel
theorem d_GV_receiveSync_21 : decode c_GV_receiveSync 21 = .ok (.ifCond .ne 4, 3) := by decide +kernel
theorem d_GV_receiveSync_24 : decode c_GV_receiveSync 24 = .ok (.return_, 1) := by decide +kernel
theorem d_GV_receiveSync_25 : decode c_GV_receiveSync 25 = .ok (.aload_n 0, 1) := by decide +kernel
theorem d_GV_receiveSync_26 : decode c_GV_receiveSync 26 = .ok (.getfield 11, 3) := by decide +kernel
theorem d_GV_receiveSync_29 : decode c_GV_receiveSync 29 = .ok (.iload_n 2, 1) := by decide +kernel
theorem d_GV_receiveSync_30 : decode c_GV_receiveSync 30 = .ok (.aaload, 1) := by decide +kernel
theorem d_GV_receiveSync_31 : decode c_GV_receiveSync 31 = .ok (.getfield 95, 3) := by decide +kernel
theorem d_GV_receiveSync_34 : decode c_GV_receiveSync 34 = .ok (.iload_n 3, 1) := by decide +kernel
theorem d_GV_receiveSync_35 : decode c_GV_receiveSync 35 = .ok (.iaload, 1) := by decide +kernel
theorem d_GV_receiveSync_36 : decode c_GV_receiveSync 36 = .ok (.istore 5, 2) := by decide +kernel
theorem d_GV_receiveSync_38 : decode c_GV_receiveSync 38 = .ok (.iconst 0, 1) := by decide +kernel
theorem d_GV_receiveSync_39 : decode c_GV_receiveSync 39 = .ok (.istore 6, 2) := by decide +kernel
theorem d_GV_receiveSync_41 : decode c_GV_receiveSync 41 = .ok (.iload 6, 2) := by decide +kernel
theorem d_GV_receiveSync_43 : decode c_GV_receiveSync 43 = .ok (.iconst 4, 1) := by decide +kernel
theorem d_GV_receiveSync_44 : decode c_GV_receiveSync 44 = .ok (.if_icmp .ge 40, 3) := by decide +kernel
theorem d_GV_receiveSync_47 : decode c_GV_receiveSync 47 = .ok (.iconst 1, 1) := by decide +kernel
theorem d_GV_receiveSync_48 : decode c_GV_receiveSync 48 = .ok (.istore 7, 2) := by decide +kernel
theorem d_GV_receiveSync_50 : decode c_GV_receiveSync 50 = .ok (.iload 7, 2) := by decide +kernel
theorem d_GV_receiveSync_52 : decode c_GV_receiveSync 52 = .ok (.iload 5, 2) := by decide +kernel
theorem d_GV_receiveSync_54 : decode c_GV_receiveSync 54 = .ok (.iload 6, 2) := by decide +kernel
theorem d_GV_receiveSync_56 : decode c_GV_receiveSync 56 = .ok (.invokestatic 162, 3) := by decide +kernel
theorem d_GV_receiveSync_59 : decode c_GV_receiveSync 59 = .ok (.if_icmp .gt 19, 3) := by decide +kernel
theorem d_GV_receiveSync_62 : decode c_GV_receiveSync 62 = .ok (.aload_n 1, 1) := by decide +kernel
theorem d_GV_receiveSync_63 : decode c_GV_receiveSync 63 = .ok (.iload 4, 2) := by decide +kernel
theorem d_GV_receiveSync_65 : decode c_GV_receiveSync 65 = .ok (.iload 6, 2) := by decide +kernel
theorem d_GV_receiveSync_67 : decode c_GV_receiveSync 67 = .ok (.iload 7, 2) := by decide +kernel
theorem d_GV_receiveSync_69 : decode c_GV_receiveSync 69 = .ok (.invokevirtual 62, 3) := by decide +kernel
theorem d_GV_receiveSync_72 : decode c_GV_receiveSync 72 = .ok (.iinc 7 1, 3) := by decide +kernel
theorem d_GV_receiveSync_75 : decode c_GV_receiveSync 75 = .ok (.goto (-25), 3) := by decide +kernel
theorem d_GV_receiveSync_78 : decode c_GV_receiveSync 78 = .ok (.iinc 6 1, 3) := by decide +kernel
theorem d_GV_receiveSync_81 : decode c_GV_receiveSync 81 = .ok (.goto (-40), 3) := by decide +kernel
theorem d_GV_receiveSync_84 : decode c_GV_receiveSync 84 = .ok (.return_, 1) := by decide +kernel
theorem d_GV_deliverOne_0 : decode c_GV_deliverOne 0 = .ok (.iconst 0, 1) := by decide +kernel
theorem d_GV_deliverOne_1 : decode c_GV_deliverOne 1 = .ok (.istore_n 3, 1) := by decide +kernel
theorem d_GV_deliverOne_2 : decode c_GV_deliverOne 2 = .ok (.iload_n 3, 1) := by decide +kernel
theorem d_GV_deliverOne_3 : decode c_GV_deliverOne 3 = .ok (.iconst 4, 1) := by decide +kernel
theorem d_GV_deliverOne_4 : decode c_GV_deliverOne 4 = .ok (.if_icmp .ge 78, 3) := by decide +kernel
theorem d_GV_deliverOne_7 : decode c_GV_deliverOne 7 = .ok (.aload_n 0, 1) := by decide +kernel
theorem d_GV_deliverOne_8 : decode c_GV_deliverOne 8 = .ok (.aload_n 1, 1) := by decide +kernel
theorem d_GV_deliverOne_9 : decode c_GV_deliverOne 9 = .ok (.iload_n 3, 1) := by decide +kernel
theorem d_GV_deliverOne_10 : decode c_GV_deliverOne 10 = .ok (.iload_n 2, 1) := by decide +kernel
theorem d_GV_deliverOne_11 : decode c_GV_deliverOne 11 = .ok (.invokevirtual 175, 3) := by decide +kernel
theorem d_GV_deliverOne_14 : decode c_GV_deliverOne 14 = .ok (.ifCond .eq 62, 3) := by decide +kernel
theorem d_GV_deliverOne_17 : decode c_GV_deliverOne 17 = .ok (.aload_n 1, 1) := by decide +kernel
theorem d_GV_deliverOne_18 : decode c_GV_deliverOne 18 = .ok (.getfield 55, 3) := by decide +kernel
theorem d_GV_deliverOne_21 : decode c_GV_deliverOne 21 = .ok (.iload_n 3, 1) := by decide +kernel
theorem d_GV_deliverOne_22 : decode c_GV_deliverOne 22 = .ok (.invokestatic 162, 3) := by decide +kernel
theorem d_GV_deliverOne_25 : decode c_GV_deliverOne 25 = .ok (.iconst 1, 1) := by decide +kernel
theorem d_GV_deliverOne_26 : decode c_GV_deliverOne 26 = .ok (.iadd, 1) := by decide +kernel
theorem d_GV_deliverOne_27 : decode c_GV_deliverOne 27 = .ok (.istore 4, 2) := by decide +kernel
theorem d_GV_deliverOne_29 : decode c_GV_deliverOne 29 = .ok (.aload_n 0, 1) := by decide +kernel
theorem d_GV_deliverOne_30 : decode c_GV_deliverOne 30 = .ok (.getfield 11, 3) := by decide +kernel
theorem d_GV_deliverOne_33 : decode c_GV_deliverOne 33 = .ok (.iload_n 3, 1) := by decide +kernel
theorem d_GV_deliverOne_34 : decode c_GV_deliverOne 34 = .ok (.aaload, 1) := by decide +kernel
theorem d_GV_deliverOne_35 : decode c_GV_deliverOne 35 = .ok (.getfield 49, 3) := by decide +kernel
theorem d_GV_deliverOne_38 : decode c_GV_deliverOne 38 = .ok (.aload_n 1, 1) := by decide +kernel
theorem d_GV_deliverOne_39 : decode c_GV_deliverOne 39 = .ok (.getfield 42, 3) := by decide +kernel
theorem d_GV_deliverOne_42 : decode c_GV_deliverOne 42 = .ok (.iload 4, 2) := by decide +kernel
theorem d_GV_deliverOne_44 : decode c_GV_deliverOne 44 = .ok (.invokestatic 45, 3) := by decide +kernel
theorem d_GV_deliverOne_47 : decode c_GV_deliverOne 47 = .ok (.iaload, 1) := by decide +kernel
theorem d_GV_deliverOne_48 : decode c_GV_deliverOne 48 = .ok (.istore 5, 2) := by decide +kernel
theorem d_GV_deliverOne_50 : decode c_GV_deliverOne 50 = .ok (.aload_n 1, 1) := by decide +kernel
theorem d_GV_deliverOne_51 : decode c_GV_deliverOne 51 = .ok (.aload_n 1, 1) := by decide +kernel
theorem d_GV_deliverOne_52 : decode c_GV_deliverOne 52 = .ok (.getfield 55, 3) := by decide +kernel
theorem d_GV_deliverOne_55 : decode c_GV_deliverOne 55 = .ok (.iload_n 3, 1) := by decide +kernel
theorem d_GV_deliverOne_56 : decode c_GV_deliverOne 56 = .ok (.iload 4, 2) := by decide +kernel
theorem d_GV_deliverOne_58 : decode c_GV_deliverOne 58 = .ok (.invokestatic 58, 3) := by decide +kernel
theorem d_GV_deliverOne_61 : decode c_GV_deliverOne 61 = .ok (.putfield 55, 3) := by decide +kernel
theorem d_GV_deliverOne_64 : decode c_GV_deliverOne 64 = .ok (.aload_n 1, 1) := by decide +kernel
theorem d_GV_deliverOne_65 : decode c_GV_deliverOne 65 = .ok (.iconst 1, 1) := by decide +kernel
theorem d_GV_deliverOne_66 : decode c_GV_deliverOne 66 = .ok (.iload_n 3, 1) := by decide +kernel
theorem d_GV_deliverOne_67 : decode c_GV_deliverOne 67 = .ok (.iload 4, 2) := by decide +kernel
theorem d_GV_deliverOne_69 : decode c_GV_deliverOne 69 = .ok (.iload 5, 2) := by decide +kernel
theorem d_GV_deliverOne_71 : decode c_GV_deliverOne 71 = .ok (.invokevirtual 152, 3) := by decide +kernel
theorem d_GV_deliverOne_74 : decode c_GV_deliverOne 74 = .ok (.iconst 1, 1) := by decide +kernel
theorem d_GV_deliverOne_75 : decode c_GV_deliverOne 75 = .ok (.ireturn, 1) := by decide +kernel
theorem d_GV_deliverOne_76 : decode c_GV_deliverOne 76 = .ok (.iinc 3 1, 3) := by decide +kernel
theorem d_GV_deliverOne_79 : decode c_GV_deliverOne 79 = .ok (.goto (-77), 3) := by decide +kernel
theorem d_GV_deliverOne_82 : decode c_GV_deliverOne 82 = .ok (.iconst 0, 1) := by decide +kernel
theorem d_GV_deliverOne_83 : decode c_GV_deliverOne 83 = .ok (.ireturn, 1) := by decide +kernel
theorem d_GV_isDeliverable_0 : decode c_GV_isDeliverable 0 = .ok (.aload_n 1, 1) := by decide +kernel
theorem d_GV_isDeliverable_1 : decode c_GV_isDeliverable 1 = .ok (.getfield 55, 3) := by decide +kernel
theorem d_GV_isDeliverable_4 : decode c_GV_isDeliverable 4 = .ok (.iload_n 2, 1) := by decide +kernel
theorem d_GV_isDeliverable_5 : decode c_GV_isDeliverable 5 = .ok (.invokestatic 162, 3) := by decide +kernel
theorem d_GV_isDeliverable_8 : decode c_GV_isDeliverable 8 = .ok (.istore 4, 2) := by decide +kernel
theorem d_GV_isDeliverable_10 : decode c_GV_isDeliverable 10 = .ok (.iload 4, 2) := by decide +kernel
theorem d_GV_isDeliverable_12 : decode c_GV_isDeliverable 12 = .ok (.iload_n 3, 1) := by decide +kernel
theorem d_GV_isDeliverable_13 : decode c_GV_isDeliverable 13 = .ok (.iload_n 2, 1) := by decide +kernel
theorem d_GV_isDeliverable_14 : decode c_GV_isDeliverable 14 = .ok (.invokestatic 162, 3) := by decide +kernel
theorem d_GV_isDeliverable_17 : decode c_GV_isDeliverable 17 = .ok (.if_icmp .ge 15, 3) := by decide +kernel
theorem d_GV_isDeliverable_20 : decode c_GV_isDeliverable 20 = .ok (.aload_n 1, 1) := by decide +kernel
theorem d_GV_isDeliverable_21 : decode c_GV_isDeliverable 21 = .ok (.iload_n 2, 1) := by decide +kernel
theorem d_GV_isDeliverable_22 : decode c_GV_isDeliverable 22 = .ok (.iload 4, 2) := by decide +kernel
theorem d_GV_isDeliverable_24 : decode c_GV_isDeliverable 24 = .ok (.iconst 1, 1) := by decide +kernel
theorem d_GV_isDeliverable_25 : decode c_GV_isDeliverable 25 = .ok (.iadd, 1) := by decide +kernel
theorem d_GV_isDeliverable_26 : decode c_GV_isDeliverable 26 = .ok (.invokevirtual 179, 3) := by decide +kernel
theorem d_GV_isDeliverable_29 : decode c_GV_isDeliverable 29 = .ok (.ifCond .ne 5, 3) := by decide +kernel
theorem d_GV_isDeliverable_32 : decode c_GV_isDeliverable 32 = .ok (.iconst 0, 1) := by decide +kernel
theorem d_GV_isDeliverable_33 : decode c_GV_isDeliverable 33 = .ok (.ireturn, 1) := by decide +kernel
theorem d_GV_isDeliverable_34 : decode c_GV_isDeliverable 34 = .ok (.aload_n 0, 1) := by decide +kernel
theorem d_GV_isDeliverable_35 : decode c_GV_isDeliverable 35 = .ok (.getfield 11, 3) := by decide +kernel
theorem d_GV_isDeliverable_38 : decode c_GV_isDeliverable 38 = .ok (.iload_n 2, 1) := by decide +kernel
theorem d_GV_isDeliverable_39 : decode c_GV_isDeliverable 39 = .ok (.aaload, 1) := by decide +kernel
theorem d_GV_isDeliverable_40 : decode c_GV_isDeliverable 40 = .ok (.getfield 52, 3) := by decide +kernel
theorem d_GV_isDeliverable_43 : decode c_GV_isDeliverable 43 = .ok (.aload_n 1, 1) := by decide +kernel
theorem d_GV_isDeliverable_44 : decode c_GV_isDeliverable 44 = .ok (.getfield 42, 3) := by decide +kernel
theorem d_GV_isDeliverable_47 : decode c_GV_isDeliverable 47 = .ok (.iload 4, 2) := by decide +kernel
theorem d_GV_isDeliverable_49 : decode c_GV_isDeliverable 49 = .ok (.iconst 1, 1) := by decide +kernel
theorem d_GV_isDeliverable_50 : decode c_GV_isDeliverable 50 = .ok (.iadd, 1) := by decide +kernel
theorem d_GV_isDeliverable_51 : decode c_GV_isDeliverable 51 = .ok (.invokestatic 45, 3) := by decide +kernel
theorem d_GV_isDeliverable_54 : decode c_GV_isDeliverable 54 = .ok (.iaload, 1) := by decide +kernel
theorem d_GV_isDeliverable_55 : decode c_GV_isDeliverable 55 = .ok (.istore 5, 2) := by decide +kernel
theorem d_GV_isDeliverable_57 : decode c_GV_isDeliverable 57 = .ok (.iconst 0, 1) := by decide +kernel
theorem d_GV_isDeliverable_58 : decode c_GV_isDeliverable 58 = .ok (.istore 6, 2) := by decide +kernel
theorem d_GV_isDeliverable_60 : decode c_GV_isDeliverable 60 = .ok (.iload 6, 2) := by decide +kernel
theorem d_GV_isDeliverable_62 : decode c_GV_isDeliverable 62 = .ok (.iconst 4, 1) := by decide +kernel
theorem d_GV_isDeliverable_63 : decode c_GV_isDeliverable 63 = .ok (.if_icmp .ge 30, 3) := by decide +kernel
theorem d_GV_isDeliverable_66 : decode c_GV_isDeliverable 66 = .ok (.aload_n 1, 1) := by decide +kernel
theorem d_GV_isDeliverable_67 : decode c_GV_isDeliverable 67 = .ok (.getfield 55, 3) := by decide +kernel
theorem d_GV_isDeliverable_70 : decode c_GV_isDeliverable 70 = .ok (.iload 6, 2) := by decide +kernel
theorem d_GV_isDeliverable_72 : decode c_GV_isDeliverable 72 = .ok (.invokestatic 162, 3) := by decide +kernel
theorem d_GV_isDeliverable_75 : decode c_GV_isDeliverable 75 = .ok (.iload 5, 2) := by decide +kernel
theorem d_GV_isDeliverable_77 : decode c_GV_isDeliverable 77 = .ok (.iload 6, 2) := by decide +kernel
theorem d_GV_isDeliverable_79 : decode c_GV_isDeliverable 79 = .ok (.invokestatic 162, 3) := by decide +kernel
theorem d_GV_isDeliverable_82 : decode c_GV_isDeliverable 82 = .ok (.if_icmp .ge 5, 3) := by decide +kernel
theorem d_GV_isDeliverable_85 : decode c_GV_isDeliverable 85 = .ok (.iconst 0, 1) := by decide +kernel
theorem d_GV_isDeliverable_86 : decode c_GV_isDeliverable 86 = .ok (.ireturn, 1) := by decide +kernel
theorem d_GV_isDeliverable_87 : decode c_GV_isDeliverable 87 = .ok (.iinc 6 1, 3) := by decide +kernel
theorem d_GV_isDeliverable_90 : decode c_GV_isDeliverable 90 = .ok (.goto (-30), 3) := by decide +kernel
theorem d_GV_isDeliverable_93 : decode c_GV_isDeliverable 93 = .ok (.iconst 1, 1) := by decide +kernel
theorem d_GV_isDeliverable_94 : decode c_GV_isDeliverable 94 = .ok (.ireturn, 1) := by decide +kernel
theorem d_GV_isReady_0 : decode c_GV_isReady 0 = .ok (.iconst 0, 1) := by decide +kernel
theorem d_GV_isReady_1 : decode c_GV_isReady 1 = .ok (.istore_n 3, 1) := by decide +kernel
theorem d_GV_isReady_2 : decode c_GV_isReady 2 = .ok (.iload_n 3, 1) := by decide +kernel
theorem d_GV_isReady_3 : decode c_GV_isReady 3 = .ok (.iconst 4, 1) := by decide +kernel
theorem d_GV_isReady_4 : decode c_GV_isReady 4 = .ok (.if_icmp .ge 40, 3) := by decide +kernel
theorem d_GV_isReady_7 : decode c_GV_isReady 7 = .ok (.iload_n 2, 1) := by decide +kernel
theorem d_GV_isReady_8 : decode c_GV_isReady 8 = .ok (.iload_n 3, 1) := by decide +kernel
theorem d_GV_isReady_9 : decode c_GV_isReady 9 = .ok (.invokestatic 76, 3) := by decide +kernel
theorem d_GV_isReady_12 : decode c_GV_isReady 12 = .ok (.ifCond .eq 26, 3) := by decide +kernel
theorem d_GV_isReady_15 : decode c_GV_isReady 15 = .ok (.aload_n 1, 1) := by decide +kernel
theorem d_GV_isReady_16 : decode c_GV_isReady 16 = .ok (.iload_n 3, 1) := by decide +kernel
theorem d_GV_isReady_17 : decode c_GV_isReady 17 = .ok (.aload_n 0, 1) := by decide +kernel
theorem d_GV_isReady_18 : decode c_GV_isReady 18 = .ok (.getfield 25, 3) := by decide +kernel
theorem d_GV_isReady_21 : decode c_GV_isReady 21 = .ok (.aload_n 1, 1) := by decide +kernel
theorem d_GV_isReady_22 : decode c_GV_isReady 22 = .ok (.getfield 89, 3) := by decide +kernel
theorem d_GV_isReady_25 : decode c_GV_isReady 25 = .ok (.iload_n 3, 1) := by decide +kernel
theorem d_GV_isReady_26 : decode c_GV_isReady 26 = .ok (.invokestatic 108, 3) := by decide +kernel
theorem d_GV_isReady_29 : decode c_GV_isReady 29 = .ok (.iaload, 1) := by decide +kernel
theorem d_GV_isReady_30 : decode c_GV_isReady 30 = .ok (.invokevirtual 182, 3) := by decide +kernel
theorem d_GV_isReady_33 : decode c_GV_isReady 33 = .ok (.ifCond .ne 5, 3) := by decide +kernel
theorem d_GV_isReady_36 : decode c_GV_isReady 36 = .ok (.iconst 0, 1) := by decide +kernel
theorem d_GV_isReady_37 : decode c_GV_isReady 37 = .ok (.ireturn, 1) := by decide +kernel
theorem d_GV_isReady_38 : decode c_GV_isReady 38 = .ok (.iinc 3 1, 3) := by decide +kernel
theorem d_GV_isReady_41 : decode c_GV_isReady 41 = .ok (.goto (-39), 3) := by decide +kernel
theorem d_GV_isReady_44 : decode c_GV_isReady 44 = .ok (.iconst 1, 1) := by decide +kernel
theorem d_GV_isReady_45 : decode c_GV_isReady 45 = .ok (.ireturn, 1) := by decide +kernel
theorem d_GV_companionsAmong_0 : decode c_GV_companionsAmong 0 = .ok (.iconst 0, 1) := by decide +kernel
theorem d_GV_companionsAmong_1 : decode c_GV_companionsAmong 1 = .ok (.istore_n 3, 1) := by decide +kernel
theorem d_GV_companionsAmong_2 : decode c_GV_companionsAmong 2 = .ok (.iconst 0, 1) := by decide +kernel
theorem d_GV_companionsAmong_3 : decode c_GV_companionsAmong 3 = .ok (.istore 4, 2) := by decide +kernel
theorem d_GV_companionsAmong_5 : decode c_GV_companionsAmong 5 = .ok (.iload 4, 2) := by decide +kernel
theorem d_GV_companionsAmong_7 : decode c_GV_companionsAmong 7 = .ok (.iconst 4, 1) := by decide +kernel
theorem d_GV_companionsAmong_8 : decode c_GV_companionsAmong 8 = .ok (.if_icmp .ge 61, 3) := by decide +kernel
theorem d_GV_companionsAmong_11 : decode c_GV_companionsAmong 11 = .ok (.aload_n 0, 1) := by decide +kernel
theorem d_GV_companionsAmong_12 : decode c_GV_companionsAmong 12 = .ok (.getfield 25, 3) := by decide +kernel
theorem d_GV_companionsAmong_15 : decode c_GV_companionsAmong 15 = .ok (.aload_n 1, 1) := by decide +kernel
theorem d_GV_companionsAmong_16 : decode c_GV_companionsAmong 16 = .ok (.getfield 89, 3) := by decide +kernel
theorem d_GV_companionsAmong_19 : decode c_GV_companionsAmong 19 = .ok (.iload 4, 2) := by decide +kernel
theorem d_GV_companionsAmong_21 : decode c_GV_companionsAmong 21 = .ok (.invokestatic 108, 3) := by decide +kernel
theorem d_GV_companionsAmong_24 : decode c_GV_companionsAmong 24 = .ok (.iaload, 1) := by decide +kernel
theorem d_GV_companionsAmong_25 : decode c_GV_companionsAmong 25 = .ok (.istore 5, 2) := by decide +kernel
theorem d_GV_companionsAmong_27 : decode c_GV_companionsAmong 27 = .ok (.iload_n 2, 1) := by decide +kernel
theorem d_GV_companionsAmong_28 : decode c_GV_companionsAmong 28 = .ok (.iload 4, 2) := by decide +kernel
theorem d_GV_companionsAmong_30 : decode c_GV_companionsAmong 30 = .ok (.invokestatic 76, 3) := by decide +kernel
theorem d_GV_companionsAmong_33 : decode c_GV_companionsAmong 33 = .ok (.ifCond .eq 30, 3) := by decide +kernel
theorem d_GV_companionsAmong_36 : decode c_GV_companionsAmong 36 = .ok (.aload_n 0, 1) := by decide +kernel
theorem d_GV_companionsAmong_37 : decode c_GV_companionsAmong 37 = .ok (.getfield 11, 3) := by decide +kernel
theorem d_GV_companionsAmong_40 : decode c_GV_companionsAmong 40 = .ok (.iload 4, 2) := by decide +kernel
theorem d_GV_companionsAmong_42 : decode c_GV_companionsAmong 42 = .ok (.aaload, 1) := by decide +kernel
theorem d_GV_companionsAmong_43 : decode c_GV_companionsAmong 43 = .ok (.getfield 92, 3) := by decide +kernel
theorem d_GV_companionsAmong_46 : decode c_GV_companionsAmong 46 = .ok (.iload 5, 2) := by decide +kernel
theorem d_GV_companionsAmong_48 : decode c_GV_companionsAmong 48 = .ok (.iaload, 1) := by decide +kernel
theorem d_GV_companionsAmong_49 : decode c_GV_companionsAmong 49 = .ok (.aload_n 1, 1) := by decide +kernel
theorem d_GV_companionsAmong_50 : decode c_GV_companionsAmong 50 = .ok (.getfield 42, 3) := by decide +kernel
theorem d_GV_companionsAmong_53 : decode c_GV_companionsAmong 53 = .ok (.if_icmp .ne 10, 3) := by decide +kernel
theorem d_GV_companionsAmong_56 : decode c_GV_companionsAmong 56 = .ok (.iload_n 3, 1) := by decide +kernel
theorem d_GV_companionsAmong_57 : decode c_GV_companionsAmong 57 = .ok (.iconst 1, 1) := by decide +kernel
theorem d_GV_companionsAmong_58 : decode c_GV_companionsAmong 58 = .ok (.iload 4, 2) := by decide +kernel
theorem d_GV_companionsAmong_60 : decode c_GV_companionsAmong 60 = .ok (.ishl, 1) := by decide +kernel
theorem d_GV_companionsAmong_61 : decode c_GV_companionsAmong 61 = .ok (.ior, 1) := by decide +kernel
theorem d_GV_companionsAmong_62 : decode c_GV_companionsAmong 62 = .ok (.istore_n 3, 1) := by decide +kernel
theorem d_GV_companionsAmong_63 : decode c_GV_companionsAmong 63 = .ok (.iinc 4 1, 3) := by decide +kernel
theorem d_GV_companionsAmong_66 : decode c_GV_companionsAmong 66 = .ok (.goto (-61), 3) := by decide +kernel
theorem d_GV_companionsAmong_69 : decode c_GV_companionsAmong 69 = .ok (.iload_n 3, 1) := by decide +kernel
theorem d_GV_companionsAmong_70 : decode c_GV_companionsAmong 70 = .ok (.ireturn, 1) := by decide +kernel
theorem d_GV_limitsOf_0 : decode c_GV_limitsOf 0 = .ok (.iconst 0, 1) := by decide +kernel
theorem d_GV_limitsOf_1 : decode c_GV_limitsOf 1 = .ok (.istore_n 3, 1) := by decide +kernel
theorem d_GV_limitsOf_2 : decode c_GV_limitsOf 2 = .ok (.iconst 0, 1) := by decide +kernel
theorem d_GV_limitsOf_3 : decode c_GV_limitsOf 3 = .ok (.istore 4, 2) := by decide +kernel
theorem d_GV_limitsOf_5 : decode c_GV_limitsOf 5 = .ok (.iload 4, 2) := by decide +kernel
theorem d_GV_limitsOf_7 : decode c_GV_limitsOf 7 = .ok (.iconst 4, 1) := by decide +kernel
theorem d_GV_limitsOf_8 : decode c_GV_limitsOf 8 = .ok (.if_icmp .ge 45, 3) := by decide +kernel
theorem d_GV_limitsOf_11 : decode c_GV_limitsOf 11 = .ok (.iload_n 2, 1) := by decide +kernel
theorem d_GV_limitsOf_12 : decode c_GV_limitsOf 12 = .ok (.iload 4, 2) := by decide +kernel
theorem d_GV_limitsOf_14 : decode c_GV_limitsOf 14 = .ok (.invokestatic 76, 3) := by decide +kernel
theorem d_GV_limitsOf_17 : decode c_GV_limitsOf 17 = .ok (.ifCond .eq 30, 3) := by decide +kernel
theorem d_GV_limitsOf_20 : decode c_GV_limitsOf 20 = .ok (.iload_n 3, 1) := by decide +kernel
theorem d_GV_limitsOf_21 : decode c_GV_limitsOf 21 = .ok (.aload_n 0, 1) := by decide +kernel
theorem d_GV_limitsOf_22 : decode c_GV_limitsOf 22 = .ok (.getfield 11, 3) := by decide +kernel
theorem d_GV_limitsOf_25 : decode c_GV_limitsOf 25 = .ok (.iload 4, 2) := by decide +kernel
theorem d_GV_limitsOf_27 : decode c_GV_limitsOf 27 = .ok (.aaload, 1) := by decide +kernel
theorem d_GV_limitsOf_28 : decode c_GV_limitsOf 28 = .ok (.getfield 95, 3) := by decide +kernel
theorem d_GV_limitsOf_31 : decode c_GV_limitsOf 31 = .ok (.aload_n 0, 1) := by decide +kernel
theorem d_GV_limitsOf_32 : decode c_GV_limitsOf 32 = .ok (.getfield 25, 3) := by decide +kernel
theorem d_GV_limitsOf_35 : decode c_GV_limitsOf 35 = .ok (.iload_n 1, 1) := by decide +kernel
theorem d_GV_limitsOf_36 : decode c_GV_limitsOf 36 = .ok (.iload 4, 2) := by decide +kernel
theorem d_GV_limitsOf_38 : decode c_GV_limitsOf 38 = .ok (.invokestatic 108, 3) := by decide +kernel
theorem d_GV_limitsOf_41 : decode c_GV_limitsOf 41 = .ok (.iaload, 1) := by decide +kernel
theorem d_GV_limitsOf_42 : decode c_GV_limitsOf 42 = .ok (.iaload, 1) := by decide +kernel
theorem d_GV_limitsOf_43 : decode c_GV_limitsOf 43 = .ok (.invokestatic 185, 3) := by decide +kernel
theorem d_GV_limitsOf_46 : decode c_GV_limitsOf 46 = .ok (.istore_n 3, 1) := by decide +kernel
theorem d_GV_limitsOf_47 : decode c_GV_limitsOf 47 = .ok (.iinc 4 1, 3) := by decide +kernel
theorem d_GV_limitsOf_50 : decode c_GV_limitsOf 50 = .ok (.goto (-45), 3) := by decide +kernel
theorem d_GV_limitsOf_53 : decode c_GV_limitsOf 53 = .ok (.iload_n 3, 1) := by decide +kernel
theorem d_GV_limitsOf_54 : decode c_GV_limitsOf 54 = .ok (.ireturn, 1) := by decide +kernel
theorem d_GV_presentSet_0 : decode c_GV_presentSet 0 = .ok (.aload_n 0, 1) := by decide +kernel
theorem d_GV_presentSet_1 : decode c_GV_presentSet 1 = .ok (.getfield 11, 3) := by decide +kernel
theorem d_GV_presentSet_4 : decode c_GV_presentSet 4 = .ok (.iload_n 1, 1) := by decide +kernel
theorem d_GV_presentSet_5 : decode c_GV_presentSet 5 = .ok (.aaload, 1) := by decide +kernel
theorem d_GV_presentSet_6 : decode c_GV_presentSet 6 = .ok (.getfield 42, 3) := by decide +kernel
theorem d_GV_presentSet_9 : decode c_GV_presentSet 9 = .ok (.istore_n 2, 1) := by decide +kernel
theorem d_GV_presentSet_10 : decode c_GV_presentSet 10 = .ok (.iload_n 2, 1) := by decide +kernel
theorem d_GV_presentSet_11 : decode c_GV_presentSet 11 = .ok (.ifCond .ne 9, 3) := by decide +kernel
theorem d_GV_presentSet_14 : decode c_GV_presentSet 14 = .ok (.iconst 1, 1) := by decide +kernel
theorem d_GV_presentSet_15 : decode c_GV_presentSet 15 = .ok (.iload_n 1, 1) := by decide +kernel
theorem d_GV_presentSet_16 : decode c_GV_presentSet 16 = .ok (.ishl, 1) := by decide +kernel
theorem d_GV_presentSet_17 : decode c_GV_presentSet 17 = .ok (.goto 9, 3) := by decide +kernel
theorem d_GV_presentSet_20 : decode c_GV_presentSet 20 = .ok (.aload_n 0, 1) := by decide +kernel
theorem d_GV_presentSet_21 : decode c_GV_presentSet 21 = .ok (.getfield 21, 3) := by decide +kernel
theorem d_GV_presentSet_24 : decode c_GV_presentSet 24 = .ok (.iload_n 2, 1) := by decide +kernel
theorem d_GV_presentSet_25 : decode c_GV_presentSet 25 = .ok (.iaload, 1) := by decide +kernel
theorem d_GV_presentSet_26 : decode c_GV_presentSet 26 = .ok (.ireturn, 1) := by decide +kernel
theorem d_GV_isFormed_0 : decode c_GV_isFormed 0 = .ok (.iload_n 1, 1) := by decide +kernel
theorem d_GV_isFormed_1 : decode c_GV_isFormed 1 = .ok (.iconst 1, 1) := by decide +kernel
theorem d_GV_isFormed_2 : decode c_GV_isFormed 2 = .ok (.if_icmp .lt 15, 3) := by decide +kernel
theorem d_GV_isFormed_5 : decode c_GV_isFormed 5 = .ok (.iload_n 1, 1) := by decide +kernel
theorem d_GV_isFormed_6 : decode c_GV_isFormed 6 = .ok (.aload_n 0, 1) := by decide +kernel
theorem d_GV_isFormed_7 : decode c_GV_isFormed 7 = .ok (.getfield 102, 3) := by decide +kernel
theorem d_GV_isFormed_10 : decode c_GV_isFormed 10 = .ok (.if_icmp .gt 7, 3) := by decide +kernel
theorem d_GV_isFormed_13 : decode c_GV_isFormed 13 = .ok (.iconst 1, 1) := by decide +kernel
theorem d_GV_isFormed_14 : decode c_GV_isFormed 14 = .ok (.goto 4, 3) := by decide +kernel
theorem d_GV_isFormed_17 : decode c_GV_isFormed 17 = .ok (.iconst 0, 1) := by decide +kernel
theorem d_GV_isFormed_18 : decode c_GV_isFormed 18 = .ok (.ireturn, 1) := by decide +kernel
theorem d_GV_isProcess_0 : decode c_GV_isProcess 0 = .ok (.iload_n 0, 1) := by decide +kernel
theorem d_GV_isProcess_1 : decode c_GV_isProcess 1 = .ok (.ifCond .lt 12, 3) := by decide +kernel
theorem d_GV_isProcess_4 : decode c_GV_isProcess 4 = .ok (.iload_n 0, 1) := by decide +kernel
theorem d_GV_isProcess_5 : decode c_GV_isProcess 5 = .ok (.iconst 4, 1) := by decide +kernel
theorem d_GV_isProcess_6 : decode c_GV_isProcess 6 = .ok (.if_icmp .ge 7, 3) := by decide +kernel
theorem d_GV_isProcess_9 : decode c_GV_isProcess 9 = .ok (.iconst 1, 1) := by decide +kernel
theorem d_GV_isProcess_10 : decode c_GV_isProcess 10 = .ok (.goto 4, 3) := by decide +kernel
theorem d_GV_isProcess_13 : decode c_GV_isProcess 13 = .ok (.iconst 0, 1) := by decide +kernel
theorem d_GV_isProcess_14 : decode c_GV_isProcess 14 = .ok (.ireturn, 1) := by decide +kernel
theorem d_GV_isLine_0 : decode c_GV_isLine 0 = .ok (.iload_n 0, 1) := by decide +kernel
theorem d_GV_isLine_1 : decode c_GV_isLine 1 = .ok (.invokestatic 30, 3) := by decide +kernel
theorem d_GV_isLine_4 : decode c_GV_isLine 4 = .ok (.ifCond .eq 19, 3) := by decide +kernel
theorem d_GV_isLine_7 : decode c_GV_isLine 7 = .ok (.iload_n 1, 1) := by decide +kernel
theorem d_GV_isLine_8 : decode c_GV_isLine 8 = .ok (.invokestatic 30, 3) := by decide +kernel
theorem d_GV_isLine_11 : decode c_GV_isLine 11 = .ok (.ifCond .eq 12, 3) := by decide +kernel
theorem d_GV_isLine_14 : decode c_GV_isLine 14 = .ok (.iload_n 0, 1) := by decide +kernel
theorem d_GV_isLine_15 : decode c_GV_isLine 15 = .ok (.iload_n 1, 1) := by decide +kernel
theorem d_GV_isLine_16 : decode c_GV_isLine 16 = .ok (.if_icmp .eq 7, 3) := by decide +kernel
theorem d_GV_isLine_19 : decode c_GV_isLine 19 = .ok (.iconst 1, 1) := by decide +kernel
theorem d_GV_isLine_20 : decode c_GV_isLine 20 = .ok (.goto 4, 3) := by decide +kernel
theorem d_GV_isLine_23 : decode c_GV_isLine 23 = .ok (.iconst 0, 1) := by decide +kernel
theorem d_GV_isLine_24 : decode c_GV_isLine 24 = .ok (.ireturn, 1) := by decide +kernel
theorem d_GV_isNonEmptySet_0 : decode c_GV_isNonEmptySet 0 = .ok (.iload_n 0, 1) := by decide +kernel
theorem d_GV_isNonEmptySet_1 : decode c_GV_isNonEmptySet 1 = .ok (.iconst 1, 1) := by decide +kernel
theorem d_GV_isNonEmptySet_2 : decode c_GV_isNonEmptySet 2 = .ok (.if_icmp .lt 13, 3) := by decide +kernel
theorem d_GV_isNonEmptySet_5 : decode c_GV_isNonEmptySet 5 = .ok (.iload_n 0, 1) := by decide +kernel
theorem d_GV_isNonEmptySet_6 : decode c_GV_isNonEmptySet 6 = .ok (.bipush 15, 2) := by decide +kernel
theorem d_GV_isNonEmptySet_8 : decode c_GV_isNonEmptySet 8 = .ok (.if_icmp .gt 7, 3) := by decide +kernel
theorem d_GV_isNonEmptySet_11 : decode c_GV_isNonEmptySet 11 = .ok (.iconst 1, 1) := by decide +kernel
theorem d_GV_isNonEmptySet_12 : decode c_GV_isNonEmptySet 12 = .ok (.goto 4, 3) := by decide +kernel
theorem d_GV_isNonEmptySet_15 : decode c_GV_isNonEmptySet 15 = .ok (.iconst 0, 1) := by decide +kernel
theorem d_GV_isNonEmptySet_16 : decode c_GV_isNonEmptySet 16 = .ok (.ireturn, 1) := by decide +kernel
theorem d_GV_has_0 : decode c_GV_has 0 = .ok (.iload_n 0, 1) := by decide +kernel
theorem d_GV_has_1 : decode c_GV_has 1 = .ok (.iload_n 1, 1) := by decide +kernel
theorem d_GV_has_2 : decode c_GV_has 2 = .ok (.ishr, 1) := by decide +kernel
theorem d_GV_has_3 : decode c_GV_has 3 = .ok (.iconst 1, 1) := by decide +kernel
theorem d_GV_has_4 : decode c_GV_has 4 = .ok (.iand, 1) := by decide +kernel
theorem d_GV_has_5 : decode c_GV_has 5 = .ok (.iconst 1, 1) := by decide +kernel
theorem d_GV_has_6 : decode c_GV_has 6 = .ok (.if_icmp .ne 7, 3) := by decide +kernel
theorem d_GV_has_9 : decode c_GV_has 9 = .ok (.iconst 1, 1) := by decide +kernel
theorem d_GV_has_10 : decode c_GV_has 10 = .ok (.goto 4, 3) := by decide +kernel
theorem d_GV_has_13 : decode c_GV_has 13 = .ok (.iconst 0, 1) := by decide +kernel
theorem d_GV_has_14 : decode c_GV_has 14 = .ok (.ireturn, 1) := by decide +kernel
theorem d_GV_lineIndex_0 : decode c_GV_lineIndex 0 = .ok (.iload_n 0, 1) := by decide +kernel
theorem d_GV_lineIndex_1 : decode c_GV_lineIndex 1 = .ok (.iconst 4, 1) := by decide +kernel
theorem d_GV_lineIndex_2 : decode c_GV_lineIndex 2 = .ok (.imul, 1) := by decide +kernel
theorem d_GV_lineIndex_3 : decode c_GV_lineIndex 3 = .ok (.iload_n 1, 1) := by decide +kernel
theorem d_GV_lineIndex_4 : decode c_GV_lineIndex 4 = .ok (.iadd, 1) := by decide +kernel
theorem d_GV_lineIndex_5 : decode c_GV_lineIndex 5 = .ok (.ireturn, 1) := by decide +kernel
theorem d_GV_startIndex_0 : decode c_GV_startIndex 0 = .ok (.iload_n 0, 1) := by decide +kernel
theorem d_GV_startIndex_1 : decode c_GV_startIndex 1 = .ok (.iconst 4, 1) := by decide +kernel
theorem d_GV_startIndex_2 : decode c_GV_startIndex 2 = .ok (.imul, 1) := by decide +kernel
theorem d_GV_startIndex_3 : decode c_GV_startIndex 3 = .ok (.iload_n 1, 1) := by decide +kernel
theorem d_GV_startIndex_4 : decode c_GV_startIndex 4 = .ok (.iadd, 1) := by decide +kernel
theorem d_GV_startIndex_5 : decode c_GV_startIndex 5 = .ok (.ireturn, 1) := by decide +kernel
theorem d_GV_slotOf_0 : decode c_GV_slotOf 0 = .ok (.iload_n 0, 1) := by decide +kernel
theorem d_GV_slotOf_1 : decode c_GV_slotOf 1 = .ok (.iconst 4, 1) := by decide +kernel
theorem d_GV_slotOf_2 : decode c_GV_slotOf 2 = .ok (.imul, 1) := by decide +kernel
theorem d_GV_slotOf_3 : decode c_GV_slotOf 3 = .ok (.iload_n 1, 1) := by decide +kernel
theorem d_GV_slotOf_4 : decode c_GV_slotOf 4 = .ok (.iadd, 1) := by decide +kernel
theorem d_GV_slotOf_5 : decode c_GV_slotOf 5 = .ok (.iconst 1, 1) := by decide +kernel
theorem d_GV_slotOf_6 : decode c_GV_slotOf 6 = .ok (.isub, 1) := by decide +kernel
theorem d_GV_slotOf_7 : decode c_GV_slotOf 7 = .ok (.ireturn, 1) := by decide +kernel
theorem d_GV_viewOfSlot_0 : decode c_GV_viewOfSlot 0 = .ok (.iload_n 0, 1) := by decide +kernel
theorem d_GV_viewOfSlot_1 : decode c_GV_viewOfSlot 1 = .ok (.iconst 4, 1) := by decide +kernel
theorem d_GV_viewOfSlot_2 : decode c_GV_viewOfSlot 2 = .ok (.idiv, 1) := by decide +kernel
theorem d_GV_viewOfSlot_3 : decode c_GV_viewOfSlot 3 = .ok (.ireturn, 1) := by decide +kernel
theorem d_GV_numberOfSlot_0 : decode c_GV_numberOfSlot 0 = .ok (.iload_n 0, 1) := by decide +kernel
theorem d_GV_numberOfSlot_1 : decode c_GV_numberOfSlot 1 = .ok (.iconst 4, 1) := by decide +kernel
theorem d_GV_numberOfSlot_2 : decode c_GV_numberOfSlot 2 = .ok (.irem, 1) := by decide +kernel
theorem d_GV_numberOfSlot_3 : decode c_GV_numberOfSlot 3 = .ok (.iconst 1, 1) := by decide +kernel
theorem d_GV_numberOfSlot_4 : decode c_GV_numberOfSlot 4 = .ok (.iadd, 1) := by decide +kernel
theorem d_GV_numberOfSlot_5 : decode c_GV_numberOfSlot 5 = .ok (.ireturn, 1) := by decide +kernel
theorem d_GV_countOf_0 : decode c_GV_countOf 0 = .ok (.iload_n 0, 1) := by decide +kernel
theorem d_GV_countOf_1 : decode c_GV_countOf 1 = .ok (.iload_n 1, 1) := by decide +kernel
theorem d_GV_countOf_2 : decode c_GV_countOf 2 = .ok (.bipush 8, 2) := by decide +kernel
theorem d_GV_countOf_4 : decode c_GV_countOf 4 = .ok (.imul, 1) := by decide +kernel
theorem d_GV_countOf_5 : decode c_GV_countOf 5 = .ok (.ishr, 1) := by decide +kernel
theorem d_GV_countOf_6 : decode c_GV_countOf 6 = .ok (.sipush 255, 3) := by decide +kernel
theorem d_GV_countOf_9 : decode c_GV_countOf 9 = .ok (.iand, 1) := by decide +kernel
theorem d_GV_countOf_10 : decode c_GV_countOf 10 = .ok (.ireturn, 1) := by decide +kernel
theorem d_GV_withCount_0 : decode c_GV_withCount 0 = .ok (.iload_n 1, 1) := by decide +kernel
theorem d_GV_withCount_1 : decode c_GV_withCount 1 = .ok (.bipush 8, 2) := by decide +kernel
theorem d_GV_withCount_3 : decode c_GV_withCount 3 = .ok (.imul, 1) := by decide +kernel
theorem d_GV_withCount_4 : decode c_GV_withCount 4 = .ok (.istore_n 3, 1) := by decide +kernel
theorem d_GV_withCount_5 : decode c_GV_withCount 5 = .ok (.iload_n 0, 1) := by decide +kernel
theorem d_GV_withCount_6 : decode c_GV_withCount 6 = .ok (.sipush 255, 3) := by decide +kernel
theorem d_GV_withCount_9 : decode c_GV_withCount 9 = .ok (.iload_n 3, 1) := by decide +kernel
theorem d_GV_withCount_10 : decode c_GV_withCount 10 = .ok (.ishl, 1) := by decide +kernel
theorem d_GV_withCount_11 : decode c_GV_withCount 11 = .ok (.iconst (-1), 1) := by decide +kernel
theorem d_GV_withCount_12 : decode c_GV_withCount 12 = .ok (.ixor, 1) := by decide +kernel
theorem d_GV_withCount_13 : decode c_GV_withCount 13 = .ok (.iand, 1) := by decide +kernel
theorem d_GV_withCount_14 : decode c_GV_withCount 14 = .ok (.iload_n 2, 1) := by decide +kernel
theorem d_GV_withCount_15 : decode c_GV_withCount 15 = .ok (.iload_n 3, 1) := by decide +kernel
theorem d_GV_withCount_16 : decode c_GV_withCount 16 = .ok (.ishl, 1) := by decide +kernel
theorem d_GV_withCount_17 : decode c_GV_withCount 17 = .ok (.ior, 1) := by decide +kernel
theorem d_GV_withCount_18 : decode c_GV_withCount 18 = .ok (.ireturn, 1) := by decide +kernel
theorem d_GV_greatestOfEach_0 : decode c_GV_greatestOfEach 0 = .ok (.iconst 0, 1) := by decide +kernel
theorem d_GV_greatestOfEach_1 : decode c_GV_greatestOfEach 1 = .ok (.istore_n 2, 1) := by decide +kernel
theorem d_GV_greatestOfEach_2 : decode c_GV_greatestOfEach 2 = .ok (.iconst 0, 1) := by decide +kernel
theorem d_GV_greatestOfEach_3 : decode c_GV_greatestOfEach 3 = .ok (.istore_n 3, 1) := by decide +kernel
theorem d_GV_greatestOfEach_4 : decode c_GV_greatestOfEach 4 = .ok (.iload_n 3, 1) := by decide +kernel
theorem d_GV_greatestOfEach_5 : decode c_GV_greatestOfEach 5 = .ok (.iconst 4, 1) := by decide +kernel
theorem d_GV_greatestOfEach_6 : decode c_GV_greatestOfEach 6 = .ok (.if_icmp .ge 28, 3) := by decide +kernel
theorem d_GV_greatestOfEach_9 : decode c_GV_greatestOfEach 9 = .ok (.iload_n 2, 1) := by decide +kernel
theorem d_GV_greatestOfEach_10 : decode c_GV_greatestOfEach 10 = .ok (.iload_n 3, 1) := by decide +kernel
theorem d_GV_greatestOfEach_11 : decode c_GV_greatestOfEach 11 = .ok (.iload_n 0, 1) := by decide +kernel
theorem d_GV_greatestOfEach_12 : decode c_GV_greatestOfEach 12 = .ok (.iload_n 3, 1) := by decide +kernel
theorem d_GV_greatestOfEach_13 : decode c_GV_greatestOfEach 13 = .ok (.invokestatic 162, 3) := by decide +kernel
theorem d_GV_greatestOfEach_16 : decode c_GV_greatestOfEach 16 = .ok (.iload_n 1, 1) := by decide +kernel
theorem d_GV_greatestOfEach_17 : decode c_GV_greatestOfEach 17 = .ok (.iload_n 3, 1) := by decide +kernel
theorem d_GV_greatestOfEach_18 : decode c_GV_greatestOfEach 18 = .ok (.invokestatic 162, 3) := by decide +kernel
theorem d_GV_greatestOfEach_21 : decode c_GV_greatestOfEach 21 = .ok (.invokestatic 188, 3) := by decide +kernel
theorem d_GV_greatestOfEach_24 : decode c_GV_greatestOfEach 24 = .ok (.invokestatic 58, 3) := by decide +kernel
theorem d_GV_greatestOfEach_27 : decode c_GV_greatestOfEach 27 = .ok (.istore_n 2, 1) := by decide +kernel
theorem d_GV_greatestOfEach_28 : decode c_GV_greatestOfEach 28 = .ok (.iinc 3 1, 3) := by decide +kernel
theorem d_GV_greatestOfEach_31 : decode c_GV_greatestOfEach 31 = .ok (.goto (-27), 3) := by decide +kernel
theorem d_GV_greatestOfEach_34 : decode c_GV_greatestOfEach 34 = .ok (.iload_n 2, 1) := by decide +kernel
theorem d_GV_greatestOfEach_35 : decode c_GV_greatestOfEach 35 = .ok (.ireturn, 1) := by decide +kernel
end
section
theorem d_MD_init_0 : decode c_MD_init 0 = .ok (.aload_n 0, 1) := by decide +kernel
theorem d_MD_init_1 : decode c_MD_init 1 = .ok (.invokespecial 1, 3) := by decide +kernel
theorem d_MD_init_4 : decode c_MD_init 4 = .ok (.aload_n 0, 1) := by decide +kernel
theorem d_MD_init_5 : decode c_MD_init 5 = .ok (.iconst 4, 1) := by decide +kernel
theorem d_MD_init_6 : decode c_MD_init 6 = .ok (.newarray .int, 2) := by decide +kernel
theorem d_MD_init_8 : decode c_MD_init 8 = .ok (.putfield 7, 3) := by decide +kernel
theorem d_MD_init_11 : decode c_MD_init 11 = .ok (.aload_n 0, 1) := by decide +kernel
theorem d_MD_init_12 : decode c_MD_init 12 = .ok (.iconst 4, 1) := by decide +kernel
theorem d_MD_init_13 : decode c_MD_init 13 = .ok (.newarray .int, 2) := by decide +kernel
theorem d_MD_init_15 : decode c_MD_init 15 = .ok (.putfield 13, 3) := by decide +kernel
theorem d_MD_init_18 : decode c_MD_init 18 = .ok (.aload_n 0, 1) := by decide +kernel
theorem d_MD_init_19 : decode c_MD_init 19 = .ok (.iconst 4, 1) := by decide +kernel
theorem d_MD_init_20 : decode c_MD_init 20 = .ok (.newarray .int, 2) := by decide +kernel
theorem d_MD_init_22 : decode c_MD_init 22 = .ok (.putfield 16, 3) := by decide +kernel
theorem d_MD_init_25 : decode c_MD_init 25 = .ok (.aload_n 0, 1) := by decide +kernel
theorem d_MD_init_26 : decode c_MD_init 26 = .ok (.iconst 4, 1) := by decide +kernel
theorem d_MD_init_27 : decode c_MD_init 27 = .ok (.newarray .boolean, 2) := by decide +kernel
theorem d_MD_init_29 : decode c_MD_init 29 = .ok (.putfield 19, 3) := by decide +kernel
theorem d_MD_init_32 : decode c_MD_init 32 = .ok (.aload_n 0, 1) := by decide +kernel
theorem d_MD_init_33 : decode c_MD_init 33 = .ok (.iconst 4, 1) := by decide +kernel
theorem d_MD_init_34 : decode c_MD_init 34 = .ok (.newarray .boolean, 2) := by decide +kernel
theorem d_MD_init_36 : decode c_MD_init 36 = .ok (.putfield 23, 3) := by decide +kernel
theorem d_MD_init_39 : decode c_MD_init 39 = .ok (.aload_n 0, 1) := by decide +kernel
theorem d_MD_init_40 : decode c_MD_init 40 = .ok (.iconst 4, 1) := by decide +kernel
theorem d_MD_init_41 : decode c_MD_init 41 = .ok (.newarray .int, 2) := by decide +kernel
theorem d_MD_init_43 : decode c_MD_init 43 = .ok (.putfield 26, 3) := by decide +kernel
theorem d_MD_init_46 : decode c_MD_init 46 = .ok (.aload_n 0, 1) := by decide +kernel
theorem d_MD_init_47 : decode c_MD_init 47 = .ok (.iconst 4, 1) := by decide +kernel
theorem d_MD_init_48 : decode c_MD_init 48 = .ok (.newarray .int, 2) := by decide +kernel
theorem d_MD_init_50 : decode c_MD_init 50 = .ok (.putfield 29, 3) := by decide +kernel
theorem d_MD_init_53 : decode c_MD_init 53 = .ok (.aload_n 0, 1) := by decide +kernel
theorem d_MD_init_54 : decode c_MD_init 54 = .ok (.iconst 4, 1) := by decide +kernel
theorem d_MD_init_55 : decode c_MD_init 55 = .ok (.newarray .int, 2) := by decide +kernel
theorem d_MD_init_57 : decode c_MD_init 57 = .ok (.putfield 32, 3) := by decide +kernel
theorem d_MD_init_60 : decode c_MD_init 60 = .ok (.aload_n 0, 1) := by decide +kernel
theorem d_MD_init_61 : decode c_MD_init 61 = .ok (.bipush 16, 2) := by decide +kernel
theorem d_MD_init_63 : decode c_MD_init 63 = .ok (.newarray .int, 2) := by decide +kernel
theorem d_MD_init_65 : decode c_MD_init 65 = .ok (.putfield 35, 3) := by decide +kernel
theorem d_MD_init_68 : decode c_MD_init 68 = .ok (.aload_n 0, 1) := by decide +kernel
theorem d_MD_init_69 : decode c_MD_init 69 = .ok (.bipush 16, 2) := by decide +kernel
theorem d_MD_init_71 : decode c_MD_init 71 = .ok (.newarray .int, 2) := by decide +kernel
theorem d_MD_init_73 : decode c_MD_init 73 = .ok (.putfield 38, 3) := by decide +kernel
theorem d_MD_init_76 : decode c_MD_init 76 = .ok (.aload_n 0, 1) := by decide +kernel
theorem d_MD_init_77 : decode c_MD_init 77 = .ok (.bipush 16, 2) := by decide +kernel
theorem d_MD_init_79 : decode c_MD_init 79 = .ok (.newarray .int, 2) := by decide +kernel
theorem d_MD_init_81 : decode c_MD_init 81 = .ok (.putfield 41, 3) := by decide +kernel
theorem d_MD_init_84 : decode c_MD_init 84 = .ok (.aload_n 0, 1) := by decide +kernel
theorem d_MD_init_85 : decode c_MD_init 85 = .ok (.bipush 64, 2) := by decide +kernel
theorem d_MD_init_87 : decode c_MD_init 87 = .ok (.newarray .int, 2) := by decide +kernel
theorem d_MD_init_89 : decode c_MD_init 89 = .ok (.putfield 44, 3) := by decide +kernel
theorem d_MD_init_92 : decode c_MD_init 92 = .ok (.aload_n 0, 1) := by decide +kernel
theorem d_MD_init_93 : decode c_MD_init 93 = .ok (.sipush 256, 3) := by decide +kernel
theorem d_MD_init_96 : decode c_MD_init 96 = .ok (.newarray .int, 2) := by decide +kernel
theorem d_MD_init_98 : decode c_MD_init 98 = .ok (.putfield 47, 3) := by decide +kernel
theorem d_MD_init_101 : decode c_MD_init 101 = .ok (.aload_n 0, 1) := by decide +kernel
theorem d_MD_init_102 : decode c_MD_init 102 = .ok (.sipush 1024, 3) := by decide +kernel
theorem d_MD_init_105 : decode c_MD_init 105 = .ok (.newarray .int, 2) := by decide +kernel
theorem d_MD_init_107 : decode c_MD_init 107 = .ok (.putfield 50, 3) := by decide +kernel
theorem d_MD_init_110 : decode c_MD_init 110 = .ok (.aload_n 0, 1) := by decide +kernel
theorem d_MD_init_111 : decode c_MD_init 111 = .ok (.sipush 1024, 3) := by decide +kernel
theorem d_MD_init_114 : decode c_MD_init 114 = .ok (.newarray .boolean, 2) := by decide +kernel
theorem d_MD_init_116 : decode c_MD_init 116 = .ok (.putfield 53, 3) := by decide +kernel
theorem d_MD_init_119 : decode c_MD_init 119 = .ok (.aload_n 0, 1) := by decide +kernel
theorem d_MD_init_120 : decode c_MD_init 120 = .ok (.bipush 64, 2) := by decide +kernel
theorem d_MD_init_122 : decode c_MD_init 122 = .ok (.newarray .int, 2) := by decide +kernel
theorem d_MD_init_124 : decode c_MD_init 124 = .ok (.putfield 56, 3) := by decide +kernel
theorem d_MD_init_127 : decode c_MD_init 127 = .ok (.aload_n 0, 1) := by decide +kernel
theorem d_MD_init_128 : decode c_MD_init 128 = .ok (.sipush 256, 3) := by decide +kernel
theorem d_MD_init_131 : decode c_MD_init 131 = .ok (.newarray .int, 2) := by decide +kernel
theorem d_MD_init_133 : decode c_MD_init 133 = .ok (.putfield 59, 3) := by decide +kernel
theorem d_MD_init_136 : decode c_MD_init 136 = .ok (.aload_n 0, 1) := by decide +kernel
theorem d_MD_init_137 : decode c_MD_init 137 = .ok (.sipush 256, 3) := by decide +kernel
theorem d_MD_init_140 : decode c_MD_init 140 = .ok (.newarray .boolean, 2) := by decide +kernel
theorem d_MD_init_142 : decode c_MD_init 142 = .ok (.putfield 62, 3) := by decide +kernel
theorem d_MD_init_145 : decode c_MD_init 145 = .ok (.aload_n 0, 1) := by decide +kernel
theorem d_MD_init_146 : decode c_MD_init 146 = .ok (.sipush 1280, 3) := by decide +kernel
theorem d_MD_init_149 : decode c_MD_init 149 = .ok (.newarray .int, 2) := by decide +kernel
theorem d_MD_init_151 : decode c_MD_init 151 = .ok (.putfield 65, 3) := by decide +kernel
theorem d_MD_init_154 : decode c_MD_init 154 = .ok (.aload_n 0, 1) := by decide +kernel
theorem d_MD_init_155 : decode c_MD_init 155 = .ok (.bipush 16, 2) := by decide +kernel
theorem d_MD_init_157 : decode c_MD_init 157 = .ok (.newarray .int, 2) := by decide +kernel
theorem d_MD_init_159 : decode c_MD_init 159 = .ok (.putfield 68, 3) := by decide +kernel
theorem d_MD_init_162 : decode c_MD_init 162 = .ok (.aload_n 0, 1) := by decide +kernel
theorem d_MD_init_163 : decode c_MD_init 163 = .ok (.iconst 4, 1) := by decide +kernel
theorem d_MD_init_164 : decode c_MD_init 164 = .ok (.newarray .int, 2) := by decide +kernel
theorem d_MD_init_166 : decode c_MD_init 166 = .ok (.putfield 71, 3) := by decide +kernel
theorem d_MD_init_169 : decode c_MD_init 169 = .ok (.return_, 1) := by decide +kernel
theorem d_MD_within_0 : decode c_MD_within 0 = .ok (.iload_n 0, 1) := by decide +kernel
theorem d_MD_within_1 : decode c_MD_within 1 = .ok (.iload_n 1, 1) := by decide +kernel
theorem d_MD_within_2 : decode c_MD_within 2 = .ok (.if_icmp .lt 12, 3) := by decide +kernel
theorem d_MD_within_5 : decode c_MD_within 5 = .ok (.iload_n 0, 1) := by decide +kernel
theorem d_MD_within_6 : decode c_MD_within 6 = .ok (.iload_n 2, 1) := by decide +kernel
theorem d_MD_within_7 : decode c_MD_within 7 = .ok (.if_icmp .gt 7, 3) := by decide +kernel
theorem d_MD_within_10 : decode c_MD_within 10 = .ok (.iconst 1, 1) := by decide +kernel
theorem d_MD_within_11 : decode c_MD_within 11 = .ok (.goto 4, 3) := by decide +kernel
theorem d_MD_within_14 : decode c_MD_within 14 = .ok (.iconst 0, 1) := by decide +kernel
theorem d_MD_within_15 : decode c_MD_within 15 = .ok (.ireturn, 1) := by decide +kernel
theorem d_MD_present_0 : decode c_MD_present 0 = .ok (.aload_n 0, 1) := by decide +kernel
theorem d_MD_present_1 : decode c_MD_present 1 = .ok (.getfield 7, 3) := by decide +kernel
theorem d_MD_present_4 : decode c_MD_present 4 = .ok (.iload_n 1, 1) := by decide +kernel
theorem d_MD_present_5 : decode c_MD_present 5 = .ok (.iaload, 1) := by decide +kernel
theorem d_MD_present_6 : decode c_MD_present 6 = .ok (.ifCond .ne 9, 3) := by decide +kernel
theorem d_MD_present_9 : decode c_MD_present 9 = .ok (.iconst 1, 1) := by decide +kernel
theorem d_MD_present_10 : decode c_MD_present 10 = .ok (.iload_n 1, 1) := by decide +kernel
theorem d_MD_present_11 : decode c_MD_present 11 = .ok (.ishl, 1) := by decide +kernel
theorem d_MD_present_12 : decode c_MD_present 12 = .ok (.goto 14, 3) := by decide +kernel
theorem d_MD_present_15 : decode c_MD_present 15 = .ok (.aload_n 0, 1) := by decide +kernel
theorem d_MD_present_16 : decode c_MD_present 16 = .ok (.getfield 41, 3) := by decide +kernel
theorem d_MD_present_19 : decode c_MD_present 19 = .ok (.aload_n 0, 1) := by decide +kernel
theorem d_MD_present_20 : decode c_MD_present 20 = .ok (.getfield 7, 3) := by decide +kernel
theorem d_MD_present_23 : decode c_MD_present 23 = .ok (.iload_n 1, 1) := by decide +kernel
theorem d_MD_present_24 : decode c_MD_present 24 = .ok (.iaload, 1) := by decide +kernel
theorem d_MD_present_25 : decode c_MD_present 25 = .ok (.iaload, 1) := by decide +kernel
theorem d_MD_present_26 : decode c_MD_present 26 = .ok (.ireturn, 1) := by decide +kernel
theorem d_MD_put_0 : decode c_MD_put 0 = .ok (.iconst 0, 1) := by decide +kernel
theorem d_MD_put_1 : decode c_MD_put 1 = .ok (.istore 4, 2) := by decide +kernel
theorem d_MD_put_3 : decode c_MD_put 3 = .ok (.iload 4, 2) := by decide +kernel
theorem d_MD_put_5 : decode c_MD_put 5 = .ok (.iconst 4, 1) := by decide +kernel
theorem d_MD_put_6 : decode c_MD_put 6 = .ok (.if_icmp .ge 69, 3) := by decide +kernel
theorem d_MD_put_9 : decode c_MD_put 9 = .ok (.iload 4, 2) := by decide +kernel
theorem d_MD_put_11 : decode c_MD_put 11 = .ok (.iload_n 1, 1) := by decide +kernel
theorem d_MD_put_12 : decode c_MD_put 12 = .ok (.if_icmp .eq 57, 3) := by decide +kernel
theorem d_MD_put_15 : decode c_MD_put 15 = .ok (.iload_n 2, 1) := by decide +kernel
theorem d_MD_put_16 : decode c_MD_put 16 = .ok (.iload 4, 2) := by decide +kernel
theorem d_MD_put_18 : decode c_MD_put 18 = .ok (.ishr, 1) := by decide +kernel
theorem d_MD_put_19 : decode c_MD_put 19 = .ok (.iconst 1, 1) := by decide +kernel
theorem d_MD_put_20 : decode c_MD_put 20 = .ok (.iand, 1) := by decide +kernel
theorem d_MD_put_21 : decode c_MD_put 21 = .ok (.ifCond .ne 6, 3) := by decide +kernel
theorem d_MD_put_24 : decode c_MD_put 24 = .ok (.goto 45, 3) := by decide +kernel
theorem d_MD_put_27 : decode c_MD_put 27 = .ok (.aload_n 0, 1) := by decide +kernel
theorem d_MD_put_28 : decode c_MD_put 28 = .ok (.getfield 65, 3) := by decide +kernel
theorem d_MD_put_31 : decode c_MD_put 31 = .ok (.bipush 80, 2) := by decide +kernel
theorem d_MD_put_33 : decode c_MD_put 33 = .ok (.iconst 4, 1) := by decide +kernel
theorem d_MD_put_34 : decode c_MD_put 34 = .ok (.iload_n 1, 1) := by decide +kernel
theorem d_MD_put_35 : decode c_MD_put 35 = .ok (.imul, 1) := by decide +kernel
theorem d_MD_put_36 : decode c_MD_put 36 = .ok (.iload 4, 2) := by decide +kernel
theorem d_MD_put_38 : decode c_MD_put 38 = .ok (.iadd, 1) := by decide +kernel
theorem d_MD_put_39 : decode c_MD_put 39 = .ok (.imul, 1) := by decide +kernel
theorem d_MD_put_40 : decode c_MD_put 40 = .ok (.aload_n 0, 1) := by decide +kernel
theorem d_MD_put_41 : decode c_MD_put 41 = .ok (.getfield 68, 3) := by decide +kernel
theorem d_MD_put_44 : decode c_MD_put 44 = .ok (.iconst 4, 1) := by decide +kernel
theorem d_MD_put_45 : decode c_MD_put 45 = .ok (.iload_n 1, 1) := by decide +kernel
theorem d_MD_put_46 : decode c_MD_put 46 = .ok (.imul, 1) := by decide +kernel
theorem d_MD_put_47 : decode c_MD_put 47 = .ok (.iload 4, 2) := by decide +kernel
theorem d_MD_put_49 : decode c_MD_put 49 = .ok (.iadd, 1) := by decide +kernel
theorem d_MD_put_50 : decode c_MD_put 50 = .ok (.iaload, 1) := by decide +kernel
theorem d_MD_put_51 : decode c_MD_put 51 = .ok (.iadd, 1) := by decide +kernel
theorem d_MD_put_52 : decode c_MD_put 52 = .ok (.iload_n 3, 1) := by decide +kernel
theorem d_MD_put_53 : decode c_MD_put 53 = .ok (.iastore, 1) := by decide +kernel
theorem d_MD_put_54 : decode c_MD_put 54 = .ok (.aload_n 0, 1) := by decide +kernel
theorem d_MD_put_55 : decode c_MD_put 55 = .ok (.getfield 68, 3) := by decide +kernel
theorem d_MD_put_58 : decode c_MD_put 58 = .ok (.iconst 4, 1) := by decide +kernel
theorem d_MD_put_59 : decode c_MD_put 59 = .ok (.iload_n 1, 1) := by decide +kernel
theorem d_MD_put_60 : decode c_MD_put 60 = .ok (.imul, 1) := by decide +kernel
theorem d_MD_put_61 : decode c_MD_put 61 = .ok (.iload 4, 2) := by decide +kernel
theorem d_MD_put_63 : decode c_MD_put 63 = .ok (.iadd, 1) := by decide +kernel
theorem d_MD_put_64 : decode c_MD_put 64 = .ok (.dup2, 1) := by decide +kernel
theorem d_MD_put_65 : decode c_MD_put 65 = .ok (.iaload, 1) := by decide +kernel
theorem d_MD_put_66 : decode c_MD_put 66 = .ok (.iconst 1, 1) := by decide +kernel
theorem d_MD_put_67 : decode c_MD_put 67 = .ok (.iadd, 1) := by decide +kernel
theorem d_MD_put_68 : decode c_MD_put 68 = .ok (.iastore, 1) := by decide +kernel
theorem d_MD_put_69 : decode c_MD_put 69 = .ok (.iinc 4 1, 3) := by decide +kernel
theorem d_MD_put_72 : decode c_MD_put 72 = .ok (.goto (-69), 3) := by decide +kernel
theorem d_MD_put_75 : decode c_MD_put 75 = .ok (.return_, 1) := by decide +kernel
theorem d_MD_send_0 : decode c_MD_send 0 = .ok (.iload_n 1, 1) := by decide +kernel
theorem d_MD_send_1 : decode c_MD_send 1 = .ok (.iconst 0, 1) := by decide +kernel
theorem d_MD_send_2 : decode c_MD_send 2 = .ok (.iconst 3, 1) := by decide +kernel
theorem d_MD_send_3 : decode c_MD_send 3 = .ok (.invokestatic 74, 3) := by decide +kernel
theorem d_MD_send_6 : decode c_MD_send 6 = .ok (.ifCond .ne 5, 3) := by decide +kernel
theorem d_MD_send_9 : decode c_MD_send 9 = .ok (.iconst (-1), 1) := by decide +kernel
theorem d_MD_send_10 : decode c_MD_send 10 = .ok (.ireturn, 1) := by decide +kernel
theorem d_MD_send_11 : decode c_MD_send 11 = .ok (.aload_n 0, 1) := by decide +kernel
theorem d_MD_send_12 : decode c_MD_send 12 = .ok (.getfield 23, 3) := by decide +kernel
theorem d_MD_send_15 : decode c_MD_send 15 = .ok (.iload_n 1, 1) := by decide +kernel
theorem d_MD_send_16 : decode c_MD_send 16 = .ok (.baload, 1) := by decide +kernel
theorem d_MD_send_17 : decode c_MD_send 17 = .ok (.ifCond .eq 6, 3) := by decide +kernel
theorem d_MD_send_20 : decode c_MD_send 20 = .ok (.bipush (-2), 2) := by decide +kernel
theorem d_MD_send_22 : decode c_MD_send 22 = .ok (.ireturn, 1) := by decide +kernel
theorem d_MD_send_23 : decode c_MD_send 23 = .ok (.aload_n 0, 1) := by decide +kernel
theorem d_MD_send_24 : decode c_MD_send 24 = .ok (.getfield 32, 3) := by decide +kernel
theorem d_MD_send_27 : decode c_MD_send 27 = .ok (.iload_n 1, 1) := by decide +kernel
theorem d_MD_send_28 : decode c_MD_send 28 = .ok (.iaload, 1) := by decide +kernel
theorem d_MD_send_29 : decode c_MD_send 29 = .ok (.iconst 4, 1) := by decide +kernel
theorem d_MD_send_30 : decode c_MD_send 30 = .ok (.if_icmp .ne 6, 3) := by decide +kernel
theorem d_MD_send_33 : decode c_MD_send 33 = .ok (.bipush (-3), 2) := by decide +kernel
theorem d_MD_send_35 : decode c_MD_send 35 = .ok (.ireturn, 1) := by decide +kernel
theorem d_MD_send_36 : decode c_MD_send 36 = .ok (.bipush 16, 2) := by decide +kernel
theorem d_MD_send_38 : decode c_MD_send 38 = .ok (.aload_n 0, 1) := by decide +kernel
theorem d_MD_send_39 : decode c_MD_send 39 = .ok (.getfield 7, 3) := by decide +kernel
theorem d_MD_send_42 : decode c_MD_send 42 = .ok (.iload_n 1, 1) := by decide +kernel
theorem d_MD_send_43 : decode c_MD_send 43 = .ok (.iaload, 1) := by decide +kernel
theorem d_MD_send_44 : decode c_MD_send 44 = .ok (.imul, 1) := by decide +kernel
theorem d_MD_send_45 : decode c_MD_send 45 = .ok (.iconst 4, 1) := by decide +kernel
theorem d_MD_send_46 : decode c_MD_send 46 = .ok (.iload_n 1, 1) := by decide +kernel
theorem d_MD_send_47 : decode c_MD_send 47 = .ok (.imul, 1) := by decide +kernel
theorem d_MD_send_48 : decode c_MD_send 48 = .ok (.iadd, 1) := by decide +kernel
theorem d_MD_send_49 : decode c_MD_send 49 = .ok (.aload_n 0, 1) := by decide +kernel
theorem d_MD_send_50 : decode c_MD_send 50 = .ok (.getfield 32, 3) := by decide +kernel
theorem d_MD_send_53 : decode c_MD_send 53 = .ok (.iload_n 1, 1) := by decide +kernel
theorem d_MD_send_54 : decode c_MD_send 54 = .ok (.iaload, 1) := by decide +kernel
theorem d_MD_send_55 : decode c_MD_send 55 = .ok (.iadd, 1) := by decide +kernel
theorem d_MD_send_56 : decode c_MD_send 56 = .ok (.istore_n 3, 1) := by decide +kernel
theorem d_MD_send_57 : decode c_MD_send 57 = .ok (.aload_n 0, 1) := by decide +kernel
theorem d_MD_send_58 : decode c_MD_send 58 = .ok (.getfield 32, 3) := by decide +kernel
theorem d_MD_send_61 : decode c_MD_send 61 = .ok (.iload_n 1, 1) := by decide +kernel
theorem d_MD_send_62 : decode c_MD_send 62 = .ok (.dup2, 1) := by decide +kernel
theorem d_MD_send_63 : decode c_MD_send 63 = .ok (.iaload, 1) := by decide +kernel
theorem d_MD_send_64 : decode c_MD_send 64 = .ok (.iconst 1, 1) := by decide +kernel
theorem d_MD_send_65 : decode c_MD_send 65 = .ok (.iadd, 1) := by decide +kernel
theorem d_MD_send_66 : decode c_MD_send 66 = .ok (.iastore, 1) := by decide +kernel
theorem d_MD_send_67 : decode c_MD_send 67 = .ok (.aload_n 0, 1) := by decide +kernel
theorem d_MD_send_68 : decode c_MD_send 68 = .ok (.getfield 47, 3) := by decide +kernel
theorem d_MD_send_71 : decode c_MD_send 71 = .ok (.iload_n 3, 1) := by decide +kernel
theorem d_MD_send_72 : decode c_MD_send 72 = .ok (.iload_n 2, 1) := by decide +kernel
theorem d_MD_send_73 : decode c_MD_send 73 = .ok (.iastore, 1) := by decide +kernel
theorem d_MD_send_74 : decode c_MD_send 74 = .ok (.iconst 0, 1) := by decide +kernel
theorem d_MD_send_75 : decode c_MD_send 75 = .ok (.istore 4, 2) := by decide +kernel
theorem d_MD_send_77 : decode c_MD_send 77 = .ok (.iload 4, 2) := by decide +kernel
theorem d_MD_send_79 : decode c_MD_send 79 = .ok (.iconst 4, 1) := by decide +kernel
theorem d_MD_send_80 : decode c_MD_send 80 = .ok (.if_icmp .ge 41, 3) := by decide +kernel
theorem d_MD_send_83 : decode c_MD_send 83 = .ok (.aload_n 0, 1) := by decide +kernel
theorem d_MD_send_84 : decode c_MD_send 84 = .ok (.getfield 50, 3) := by decide +kernel
theorem d_MD_send_87 : decode c_MD_send 87 = .ok (.iconst 4, 1) := by decide +kernel
theorem d_MD_send_88 : decode c_MD_send 88 = .ok (.iload_n 3, 1) := by decide +kernel
theorem d_MD_send_89 : decode c_MD_send 89 = .ok (.imul, 1) := by decide +kernel
theorem d_MD_send_90 : decode c_MD_send 90 = .ok (.iload 4, 2) := by decide +kernel
theorem d_MD_send_92 : decode c_MD_send 92 = .ok (.iadd, 1) := by decide +kernel
theorem d_MD_send_93 : decode c_MD_send 93 = .ok (.iload 4, 2) := by decide +kernel
theorem d_MD_send_95 : decode c_MD_send 95 = .ok (.iload_n 1, 1) := by decide +kernel
theorem d_MD_send_96 : decode c_MD_send 96 = .ok (.if_icmp .ne 7, 3) := by decide +kernel
theorem d_MD_send_99 : decode c_MD_send 99 = .ok (.iconst 0, 1) := by decide +kernel
theorem d_MD_send_100 : decode c_MD_send 100 = .ok (.goto 14, 3) := by decide +kernel
theorem d_MD_send_103 : decode c_MD_send 103 = .ok (.aload_n 0, 1) := by decide +kernel
theorem d_MD_send_104 : decode c_MD_send 104 = .ok (.getfield 35, 3) := by decide +kernel
theorem d_MD_send_107 : decode c_MD_send 107 = .ok (.iconst 4, 1) := by decide +kernel
theorem d_MD_send_108 : decode c_MD_send 108 = .ok (.iload_n 1, 1) := by decide +kernel
theorem d_MD_send_109 : decode c_MD_send 109 = .ok (.imul, 1) := by decide +kernel
theorem d_MD_send_110 : decode c_MD_send 110 = .ok (.iload 4, 2) := by decide +kernel
theorem d_MD_send_112 : decode c_MD_send 112 = .ok (.iadd, 1) := by decide +kernel
theorem d_MD_send_113 : decode c_MD_send 113 = .ok (.iaload, 1) := by decide +kernel
theorem d_MD_send_114 : decode c_MD_send 114 = .ok (.iastore, 1) := by decide +kernel
theorem d_MD_send_115 : decode c_MD_send 115 = .ok (.iinc 4 1, 3) := by decide +kernel
theorem d_MD_send_118 : decode c_MD_send 118 = .ok (.goto (-41), 3) := by decide +kernel
theorem d_MD_send_121 : decode c_MD_send 121 = .ok (.aload_n 0, 1) := by decide +kernel
theorem d_MD_send_122 : decode c_MD_send 122 = .ok (.getfield 53, 3) := by decide +kernel
theorem d_MD_send_125 : decode c_MD_send 125 = .ok (.sipush 256, 3) := by decide +kernel
theorem d_MD_send_128 : decode c_MD_send 128 = .ok (.iload_n 1, 1) := by decide +kernel
theorem d_MD_send_129 : decode c_MD_send 129 = .ok (.imul, 1) := by decide +kernel
theorem d_MD_send_130 : decode c_MD_send 130 = .ok (.iload_n 3, 1) := by decide +kernel
theorem d_MD_send_131 : decode c_MD_send 131 = .ok (.iadd, 1) := by decide +kernel
theorem d_MD_send_132 : decode c_MD_send 132 = .ok (.iconst 1, 1) := by decide +kernel
theorem d_MD_send_133 : decode c_MD_send 133 = .ok (.bastore, 1) := by decide +kernel
theorem d_MD_send_134 : decode c_MD_send 134 = .ok (.aload_n 0, 1) := by decide +kernel
theorem d_MD_send_135 : decode c_MD_send 135 = .ok (.iload_n 1, 1) := by decide +kernel
theorem d_MD_send_136 : decode c_MD_send 136 = .ok (.aload_n 0, 1) := by decide +kernel
theorem d_MD_send_137 : decode c_MD_send 137 = .ok (.iload_n 1, 1) := by decide +kernel
theorem d_MD_send_138 : decode c_MD_send 138 = .ok (.invokevirtual 78, 3) := by decide +kernel
theorem d_MD_send_141 : decode c_MD_send 141 = .ok (.iload_n 3, 1) := by decide +kernel
theorem d_MD_send_142 : decode c_MD_send 142 = .ok (.invokevirtual 82, 3) := by decide +kernel
theorem d_MD_send_145 : decode c_MD_send 145 = .ok (.aload_n 0, 1) := by decide +kernel
theorem d_MD_send_146 : decode c_MD_send 146 = .ok (.getfield 32, 3) := by decide +kernel
theorem d_MD_send_149 : decode c_MD_send 149 = .ok (.iload_n 1, 1) := by decide +kernel
theorem d_MD_send_150 : decode c_MD_send 150 = .ok (.iaload, 1) := by decide +kernel
theorem d_MD_send_151 : decode c_MD_send 151 = .ok (.ireturn, 1) := by decide +kernel
theorem d_MD_change_0 : decode c_MD_change 0 = .ok (.iload_n 1, 1) := by decide +kernel
theorem d_MD_change_1 : decode c_MD_change 1 = .ok (.iconst 0, 1) := by decide +kernel
theorem d_MD_change_2 : decode c_MD_change 2 = .ok (.iconst 3, 1) := by decide +kernel
theorem d_MD_change_3 : decode c_MD_change 3 = .ok (.invokestatic 74, 3) := by decide +kernel
theorem d_MD_change_6 : decode c_MD_change 6 = .ok (.ifCond .ne 5, 3) := by decide +kernel
theorem d_MD_change_9 : decode c_MD_change 9 = .ok (.iconst (-1), 1) := by decide +kernel
theorem d_MD_change_10 : decode c_MD_change 10 = .ok (.ireturn, 1) := by decide +kernel
theorem d_MD_change_11 : decode c_MD_change 11 = .ok (.iload_n 2, 1) := by decide +kernel
theorem d_MD_change_12 : decode c_MD_change 12 = .ok (.iconst 1, 1) := by decide +kernel
theorem d_MD_change_13 : decode c_MD_change 13 = .ok (.bipush 15, 2) := by decide +kernel
theorem d_MD_change_15 : decode c_MD_change 15 = .ok (.invokestatic 74, 3) := by decide +kernel
theorem d_MD_change_18 : decode c_MD_change 18 = .ok (.ifCond .eq 11, 3) := by decide +kernel
theorem d_MD_change_21 : decode c_MD_change 21 = .ok (.iload_n 2, 1) := by decide +kernel
theorem d_MD_change_22 : decode c_MD_change 22 = .ok (.iload_n 1, 1) := by decide +kernel
theorem d_MD_change_23 : decode c_MD_change 23 = .ok (.ishr, 1) := by decide +kernel
theorem d_MD_change_24 : decode c_MD_change 24 = .ok (.iconst 1, 1) := by decide +kernel
theorem d_MD_change_25 : decode c_MD_change 25 = .ok (.iand, 1) := by decide +kernel
theorem d_MD_change_26 : decode c_MD_change 26 = .ok (.ifCond .ne 6, 3) := by decide +kernel
theorem d_MD_change_29 : decode c_MD_change 29 = .ok (.bipush (-2), 2) := by decide +kernel
theorem d_MD_change_31 : decode c_MD_change 31 = .ok (.ireturn, 1) := by decide +kernel
theorem d_MD_change_32 : decode c_MD_change 32 = .ok (.aload_n 0, 1) := by decide +kernel
theorem d_MD_change_33 : decode c_MD_change 33 = .ok (.getfield 13, 3) := by decide +kernel
theorem d_MD_change_36 : decode c_MD_change 36 = .ok (.iload_n 1, 1) := by decide +kernel
theorem d_MD_change_37 : decode c_MD_change 37 = .ok (.iaload, 1) := by decide +kernel
theorem d_MD_change_38 : decode c_MD_change 38 = .ok (.bipush 15, 2) := by decide +kernel
theorem d_MD_change_40 : decode c_MD_change 40 = .ok (.if_icmp .ne 6, 3) := by decide +kernel
theorem d_MD_change_43 : decode c_MD_change 43 = .ok (.bipush (-3), 2) := by decide +kernel
theorem d_MD_change_45 : decode c_MD_change 45 = .ok (.ireturn, 1) := by decide +kernel
theorem d_MD_change_46 : decode c_MD_change 46 = .ok (.aload_n 0, 1) := by decide +kernel
theorem d_MD_change_47 : decode c_MD_change 47 = .ok (.getfield 13, 3) := by decide +kernel
theorem d_MD_change_50 : decode c_MD_change 50 = .ok (.iload_n 1, 1) := by decide +kernel
theorem d_MD_change_51 : decode c_MD_change 51 = .ok (.dup2, 1) := by decide +kernel
theorem d_MD_change_52 : decode c_MD_change 52 = .ok (.iaload, 1) := by decide +kernel
theorem d_MD_change_53 : decode c_MD_change 53 = .ok (.iconst 1, 1) := by decide +kernel
theorem d_MD_change_54 : decode c_MD_change 54 = .ok (.iadd, 1) := by decide +kernel
theorem d_MD_change_55 : decode c_MD_change 55 = .ok (.iastore, 1) := by decide +kernel
theorem d_MD_change_56 : decode c_MD_change 56 = .ok (.aload_n 0, 1) := by decide +kernel
theorem d_MD_change_57 : decode c_MD_change 57 = .ok (.getfield 16, 3) := by decide +kernel
theorem d_MD_change_60 : decode c_MD_change 60 = .ok (.iload_n 1, 1) := by decide +kernel
theorem d_MD_change_61 : decode c_MD_change 61 = .ok (.iload_n 2, 1) := by decide +kernel
theorem d_MD_change_62 : decode c_MD_change 62 = .ok (.iastore, 1) := by decide +kernel
theorem d_MD_change_63 : decode c_MD_change 63 = .ok (.aload_n 0, 1) := by decide +kernel
theorem d_MD_change_64 : decode c_MD_change 64 = .ok (.getfield 23, 3) := by decide +kernel
theorem d_MD_change_67 : decode c_MD_change 67 = .ok (.iload_n 1, 1) := by decide +kernel
theorem d_MD_change_68 : decode c_MD_change 68 = .ok (.iconst 1, 1) := by decide +kernel
theorem d_MD_change_69 : decode c_MD_change 69 = .ok (.bastore, 1) := by decide +kernel
theorem d_MD_change_70 : decode c_MD_change 70 = .ok (.aload_n 0, 1) := by decide +kernel
theorem d_MD_change_71 : decode c_MD_change 71 = .ok (.getfield 26, 3) := by decide +kernel
theorem d_MD_change_74 : decode c_MD_change 74 = .ok (.iload_n 1, 1) := by decide +kernel
theorem d_MD_change_75 : decode c_MD_change 75 = .ok (.iconst 0, 1) := by decide +kernel
theorem d_MD_change_76 : decode c_MD_change 76 = .ok (.iastore, 1) := by decide +kernel
theorem d_MD_change_77 : decode c_MD_change 77 = .ok (.aload_n 0, 1) := by decide +kernel
theorem d_MD_change_78 : decode c_MD_change 78 = .ok (.getfield 19, 3) := by decide +kernel
theorem d_MD_change_81 : decode c_MD_change 81 = .ok (.iload_n 1, 1) := by decide +kernel
theorem d_MD_change_82 : decode c_MD_change 82 = .ok (.iconst 1, 1) := by decide +kernel
theorem d_MD_change_83 : decode c_MD_change 83 = .ok (.bastore, 1) := by decide +kernel
theorem d_MD_change_84 : decode c_MD_change 84 = .ok (.bipush 16, 2) := by decide +kernel
theorem d_MD_change_86 : decode c_MD_change 86 = .ok (.iload_n 1, 1) := by decide +kernel
theorem d_MD_change_87 : decode c_MD_change 87 = .ok (.imul, 1) := by decide +kernel
theorem d_MD_change_88 : decode c_MD_change 88 = .ok (.aload_n 0, 1) := by decide +kernel
theorem d_MD_change_89 : decode c_MD_change 89 = .ok (.getfield 13, 3) := by decide +kernel
theorem d_MD_change_92 : decode c_MD_change 92 = .ok (.iload_n 1, 1) := by decide +kernel
theorem d_MD_change_93 : decode c_MD_change 93 = .ok (.iaload, 1) := by decide +kernel
theorem d_MD_change_94 : decode c_MD_change 94 = .ok (.iadd, 1) := by decide +kernel
theorem d_MD_change_95 : decode c_MD_change 95 = .ok (.istore_n 3, 1) := by decide +kernel
theorem d_MD_change_96 : decode c_MD_change 96 = .ok (.aload_n 0, 1) := by decide +kernel
theorem d_MD_change_97 : decode c_MD_change 97 = .ok (.getfield 56, 3) := by decide +kernel
theorem d_MD_change_100 : decode c_MD_change 100 = .ok (.iload_n 3, 1) := by decide +kernel
theorem d_MD_change_101 : decode c_MD_change 101 = .ok (.aload_n 0, 1) := by decide +kernel
theorem d_MD_change_102 : decode c_MD_change 102 = .ok (.getfield 7, 3) := by decide +kernel
theorem d_MD_change_105 : decode c_MD_change 105 = .ok (.iload_n 1, 1) := by decide +kernel
theorem d_MD_change_106 : decode c_MD_change 106 = .ok (.iaload, 1) := by decide +kernel
theorem d_MD_change_107 : decode c_MD_change 107 = .ok (.iastore, 1) := by decide +kernel
theorem d_MD_change_108 : decode c_MD_change 108 = .ok (.iconst 0, 1) := by decide +kernel
theorem d_MD_change_109 : decode c_MD_change 109 = .ok (.istore 4, 2) := by decide +kernel
theorem d_MD_change_111 : decode c_MD_change 111 = .ok (.iload 4, 2) := by decide +kernel
theorem d_MD_change_113 : decode c_MD_change 113 = .ok (.iconst 4, 1) := by decide +kernel
theorem d_MD_change_114 : decode c_MD_change 114 = .ok (.if_icmp .ge 46, 3) := by decide +kernel
theorem d_MD_change_117 : decode c_MD_change 117 = .ok (.aload_n 0, 1) := by decide +kernel
theorem d_MD_change_118 : decode c_MD_change 118 = .ok (.getfield 59, 3) := by decide +kernel
theorem d_MD_change_121 : decode c_MD_change 121 = .ok (.iconst 4, 1) := by decide +kernel
theorem d_MD_change_122 : decode c_MD_change 122 = .ok (.iload_n 3, 1) := by decide +kernel
theorem d_MD_change_123 : decode c_MD_change 123 = .ok (.imul, 1) := by decide +kernel
theorem d_MD_change_124 : decode c_MD_change 124 = .ok (.iload 4, 2) := by decide +kernel
theorem d_MD_change_126 : decode c_MD_change 126 = .ok (.iadd, 1) := by decide +kernel
theorem d_MD_change_127 : decode c_MD_change 127 = .ok (.iload 4, 2) := by decide +kernel
theorem d_MD_change_129 : decode c_MD_change 129 = .ok (.iload_n 1, 1) := by decide +kernel
theorem d_MD_change_130 : decode c_MD_change 130 = .ok (.if_icmp .ne 12, 3) := by decide +kernel
theorem d_MD_change_133 : decode c_MD_change 133 = .ok (.aload_n 0, 1) := by decide +kernel
theorem d_MD_change_134 : decode c_MD_change 134 = .ok (.getfield 32, 3) := by decide +kernel
theorem d_MD_change_137 : decode c_MD_change 137 = .ok (.iload_n 1, 1) := by decide +kernel
theorem d_MD_change_138 : decode c_MD_change 138 = .ok (.iaload, 1) := by decide +kernel
theorem d_MD_change_139 : decode c_MD_change 139 = .ok (.goto 14, 3) := by decide +kernel
theorem d_MD_change_142 : decode c_MD_change 142 = .ok (.aload_n 0, 1) := by decide +kernel
theorem d_MD_change_143 : decode c_MD_change 143 = .ok (.getfield 35, 3) := by decide +kernel
theorem d_MD_change_146 : decode c_MD_change 146 = .ok (.iconst 4, 1) := by decide +kernel
theorem d_MD_change_147 : decode c_MD_change 147 = .ok (.iload_n 1, 1) := by decide +kernel
theorem d_MD_change_148 : decode c_MD_change 148 = .ok (.imul, 1) := by decide +kernel
theorem d_MD_change_149 : decode c_MD_change 149 = .ok (.iload 4, 2) := by decide +kernel
theorem d_MD_change_151 : decode c_MD_change 151 = .ok (.iadd, 1) := by decide +kernel
theorem d_MD_change_152 : decode c_MD_change 152 = .ok (.iaload, 1) := by decide +kernel
theorem d_MD_change_153 : decode c_MD_change 153 = .ok (.iastore, 1) := by decide +kernel
theorem d_MD_change_154 : decode c_MD_change 154 = .ok (.iinc 4 1, 3) := by decide +kernel
theorem d_MD_change_157 : decode c_MD_change 157 = .ok (.goto (-46), 3) := by decide +kernel
theorem d_MD_change_160 : decode c_MD_change 160 = .ok (.aload_n 0, 1) := by decide +kernel
theorem d_MD_change_161 : decode c_MD_change 161 = .ok (.getfield 62, 3) := by decide +kernel
theorem d_MD_change_164 : decode c_MD_change 164 = .ok (.bipush 64, 2) := by decide +kernel
theorem d_MD_change_166 : decode c_MD_change 166 = .ok (.iload_n 1, 1) := by decide +kernel
theorem d_MD_change_167 : decode c_MD_change 167 = .ok (.imul, 1) := by decide +kernel
theorem d_MD_change_168 : decode c_MD_change 168 = .ok (.iload_n 3, 1) := by decide +kernel
theorem d_MD_change_169 : decode c_MD_change 169 = .ok (.iadd, 1) := by decide +kernel
theorem d_MD_change_170 : decode c_MD_change 170 = .ok (.iconst 1, 1) := by decide +kernel
theorem d_MD_change_171 : decode c_MD_change 171 = .ok (.bastore, 1) := by decide +kernel
theorem d_MD_change_172 : decode c_MD_change 172 = .ok (.aload_n 0, 1) := by decide +kernel
theorem d_MD_change_173 : decode c_MD_change 173 = .ok (.iload_n 1, 1) := by decide +kernel
theorem d_MD_change_174 : decode c_MD_change 174 = .ok (.iload_n 2, 1) := by decide +kernel
theorem d_MD_change_175 : decode c_MD_change 175 = .ok (.sipush 256, 3) := by decide +kernel
theorem d_MD_change_178 : decode c_MD_change 178 = .ok (.iload_n 3, 1) := by decide +kernel
theorem d_MD_change_179 : decode c_MD_change 179 = .ok (.iadd, 1) := by decide +kernel
theorem d_MD_change_180 : decode c_MD_change 180 = .ok (.invokevirtual 82, 3) := by decide +kernel
theorem d_MD_change_183 : decode c_MD_change 183 = .ok (.aload_n 0, 1) := by decide +kernel
theorem d_MD_change_184 : decode c_MD_change 184 = .ok (.getfield 13, 3) := by decide +kernel
theorem d_MD_change_187 : decode c_MD_change 187 = .ok (.iload_n 1, 1) := by decide +kernel
theorem d_MD_change_188 : decode c_MD_change 188 = .ok (.iaload, 1) := by decide +kernel
theorem d_MD_change_189 : decode c_MD_change 189 = .ok (.ireturn, 1) := by decide +kernel
theorem d_MD_form_0 : decode c_MD_form 0 = .ok (.iload_n 1, 1) := by decide +kernel
theorem d_MD_form_1 : decode c_MD_form 1 = .ok (.iconst 1, 1) := by decide +kernel
theorem d_MD_form_2 : decode c_MD_form 2 = .ok (.bipush 15, 2) := by decide +kernel
theorem d_MD_form_4 : decode c_MD_form 4 = .ok (.invokestatic 74, 3) := by decide +kernel
theorem d_MD_form_7 : decode c_MD_form 7 = .ok (.ifCond .ne 6, 3) := by decide +kernel
theorem d_MD_form_10 : decode c_MD_form 10 = .ok (.bipush (-2), 2) := by decide +kernel
theorem d_MD_form_12 : decode c_MD_form 12 = .ok (.ireturn, 1) := by decide +kernel
theorem d_MD_form_13 : decode c_MD_form 13 = .ok (.aload_n 0, 1) := by decide +kernel
theorem d_MD_form_14 : decode c_MD_form 14 = .ok (.getfield 86, 3) := by decide +kernel
theorem d_MD_form_17 : decode c_MD_form 17 = .ok (.bipush 15, 2) := by decide +kernel
theorem d_MD_form_19 : decode c_MD_form 19 = .ok (.if_icmp .ne 6, 3) := by decide +kernel
theorem d_MD_form_22 : decode c_MD_form 22 = .ok (.bipush (-3), 2) := by decide +kernel
theorem d_MD_form_24 : decode c_MD_form 24 = .ok (.ireturn, 1) := by decide +kernel
theorem d_MD_form_25 : decode c_MD_form 25 = .ok (.iconst 0, 1) := by decide +kernel
theorem d_MD_form_26 : decode c_MD_form 26 = .ok (.istore_n 2, 1) := by decide +kernel
theorem d_MD_form_27 : decode c_MD_form 27 = .ok (.iload_n 2, 1) := by decide +kernel
theorem d_MD_form_28 : decode c_MD_form 28 = .ok (.iconst 4, 1) := by decide +kernel
theorem d_MD_form_29 : decode c_MD_form 29 = .ok (.if_icmp .ge 43, 3) := by decide +kernel
theorem d_MD_form_32 : decode c_MD_form 32 = .ok (.iload_n 1, 1) := by decide +kernel
theorem d_MD_form_33 : decode c_MD_form 33 = .ok (.iload_n 2, 1) := by decide +kernel
theorem d_MD_form_34 : decode c_MD_form 34 = .ok (.ishr, 1) := by decide +kernel
theorem d_MD_form_35 : decode c_MD_form 35 = .ok (.iconst 1, 1) := by decide +kernel
theorem d_MD_form_36 : decode c_MD_form 36 = .ok (.iand, 1) := by decide +kernel
theorem d_MD_form_37 : decode c_MD_form 37 = .ok (.iconst 1, 1) := by decide +kernel
theorem d_MD_form_38 : decode c_MD_form 38 = .ok (.if_icmp .ne 28, 3) := by decide +kernel
theorem d_MD_form_41 : decode c_MD_form 41 = .ok (.aload_n 0, 1) := by decide +kernel
theorem d_MD_form_42 : decode c_MD_form 42 = .ok (.getfield 19, 3) := by decide +kernel
theorem d_MD_form_45 : decode c_MD_form 45 = .ok (.iload_n 2, 1) := by decide +kernel
theorem d_MD_form_46 : decode c_MD_form 46 = .ok (.baload, 1) := by decide +kernel
theorem d_MD_form_47 : decode c_MD_form 47 = .ok (.ifCond .eq 16, 3) := by decide +kernel
theorem d_MD_form_50 : decode c_MD_form 50 = .ok (.iload_n 1, 1) := by decide +kernel
theorem d_MD_form_51 : decode c_MD_form 51 = .ok (.aload_n 0, 1) := by decide +kernel
theorem d_MD_form_52 : decode c_MD_form 52 = .ok (.getfield 16, 3) := by decide +kernel
theorem d_MD_form_55 : decode c_MD_form 55 = .ok (.iload_n 2, 1) := by decide +kernel
theorem d_MD_form_56 : decode c_MD_form 56 = .ok (.iaload, 1) := by decide +kernel
theorem d_MD_form_57 : decode c_MD_form 57 = .ok (.iconst (-1), 1) := by decide +kernel
theorem d_MD_form_58 : decode c_MD_form 58 = .ok (.ixor, 1) := by decide +kernel
theorem d_MD_form_59 : decode c_MD_form 59 = .ok (.iand, 1) := by decide +kernel
theorem d_MD_form_60 : decode c_MD_form 60 = .ok (.ifCond .eq 6, 3) := by decide +kernel
theorem d_MD_form_63 : decode c_MD_form 63 = .ok (.bipush (-4), 2) := by decide +kernel
theorem d_MD_form_65 : decode c_MD_form 65 = .ok (.ireturn, 1) := by decide +kernel
theorem d_MD_form_66 : decode c_MD_form 66 = .ok (.iinc 2 1, 3) := by decide +kernel
theorem d_MD_form_69 : decode c_MD_form 69 = .ok (.goto (-42), 3) := by decide +kernel
theorem d_MD_form_72 : decode c_MD_form 72 = .ok (.aload_n 0, 1) := by decide +kernel
theorem d_MD_form_73 : decode c_MD_form 73 = .ok (.dup, 1) := by decide +kernel
theorem d_MD_form_74 : decode c_MD_form 74 = .ok (.getfield 86, 3) := by decide +kernel
theorem d_MD_form_77 : decode c_MD_form 77 = .ok (.iconst 1, 1) := by decide +kernel
theorem d_MD_form_78 : decode c_MD_form 78 = .ok (.iadd, 1) := by decide +kernel
theorem d_MD_form_79 : decode c_MD_form 79 = .ok (.putfield 86, 3) := by decide +kernel
theorem d_MD_form_82 : decode c_MD_form 82 = .ok (.aload_n 0, 1) := by decide +kernel
theorem d_MD_form_83 : decode c_MD_form 83 = .ok (.getfield 41, 3) := by decide +kernel
theorem d_MD_form_86 : decode c_MD_form 86 = .ok (.aload_n 0, 1) := by decide +kernel
theorem d_MD_form_87 : decode c_MD_form 87 = .ok (.getfield 86, 3) := by decide +kernel
theorem d_MD_form_90 : decode c_MD_form 90 = .ok (.iload_n 1, 1) := by decide +kernel
theorem d_MD_form_91 : decode c_MD_form 91 = .ok (.iastore, 1) := by decide +kernel
theorem d_MD_form_92 : decode c_MD_form 92 = .ok (.iconst 0, 1) := by decide +kernel
theorem d_MD_form_93 : decode c_MD_form 93 = .ok (.istore_n 2, 1) := by decide +kernel
theorem d_MD_form_94 : decode c_MD_form 94 = .ok (.iload_n 2, 1) := by decide +kernel
theorem d_MD_form_95 : decode c_MD_form 95 = .ok (.iconst 4, 1) := by decide +kernel
theorem d_MD_form_96 : decode c_MD_form 96 = .ok (.if_icmp .ge 46, 3) := by decide +kernel
theorem d_MD_form_99 : decode c_MD_form 99 = .ok (.iload_n 1, 1) := by decide +kernel
theorem d_MD_form_100 : decode c_MD_form 100 = .ok (.iload_n 2, 1) := by decide +kernel
theorem d_MD_form_101 : decode c_MD_form 101 = .ok (.ishr, 1) := by decide +kernel
theorem d_MD_form_102 : decode c_MD_form 102 = .ok (.iconst 1, 1) := by decide +kernel
theorem d_MD_form_103 : decode c_MD_form 103 = .ok (.iand, 1) := by decide +kernel
theorem d_MD_form_104 : decode c_MD_form 104 = .ok (.ifCond .ne 6, 3) := by decide +kernel
theorem d_MD_form_107 : decode c_MD_form 107 = .ok (.goto 29, 3) := by decide +kernel
theorem d_MD_form_110 : decode c_MD_form 110 = .ok (.aload_n 0, 1) := by decide +kernel
theorem d_MD_form_111 : decode c_MD_form 111 = .ok (.getfield 44, 3) := by decide +kernel
theorem d_MD_form_114 : decode c_MD_form 114 = .ok (.iconst 4, 1) := by decide +kernel
theorem d_MD_form_115 : decode c_MD_form 115 = .ok (.aload_n 0, 1) := by decide +kernel
theorem d_MD_form_116 : decode c_MD_form 116 = .ok (.getfield 86, 3) := by decide +kernel
theorem d_MD_form_119 : decode c_MD_form 119 = .ok (.imul, 1) := by decide +kernel
theorem d_MD_form_120 : decode c_MD_form 120 = .ok (.iload_n 2, 1) := by decide +kernel
theorem d_MD_form_121 : decode c_MD_form 121 = .ok (.iadd, 1) := by decide +kernel
theorem d_MD_form_122 : decode c_MD_form 122 = .ok (.aload_n 0, 1) := by decide +kernel
theorem d_MD_form_123 : decode c_MD_form 123 = .ok (.getfield 13, 3) := by decide +kernel
theorem d_MD_form_126 : decode c_MD_form 126 = .ok (.iload_n 2, 1) := by decide +kernel
theorem d_MD_form_127 : decode c_MD_form 127 = .ok (.iaload, 1) := by decide +kernel
theorem d_MD_form_128 : decode c_MD_form 128 = .ok (.iastore, 1) := by decide +kernel
theorem d_MD_form_129 : decode c_MD_form 129 = .ok (.aload_n 0, 1) := by decide +kernel
theorem d_MD_form_130 : decode c_MD_form 130 = .ok (.getfield 19, 3) := by decide +kernel
theorem d_MD_form_133 : decode c_MD_form 133 = .ok (.iload_n 2, 1) := by decide +kernel
theorem d_MD_form_134 : decode c_MD_form 134 = .ok (.iconst 0, 1) := by decide +kernel
theorem d_MD_form_135 : decode c_MD_form 135 = .ok (.bastore, 1) := by decide +kernel
theorem d_MD_form_136 : decode c_MD_form 136 = .ok (.iinc 2 1, 3) := by decide +kernel
theorem d_MD_form_139 : decode c_MD_form 139 = .ok (.goto (-45), 3) := by decide +kernel
theorem d_MD_form_142 : decode c_MD_form 142 = .ok (.aload_n 0, 1) := by decide +kernel
theorem d_MD_form_143 : decode c_MD_form 143 = .ok (.getfield 86, 3) := by decide +kernel
theorem d_MD_form_146 : decode c_MD_form 146 = .ok (.ireturn, 1) := by decide +kernel
theorem d_MD_tell_0 : decode c_MD_tell 0 = .ok (.iload_n 1, 1) := by decide +kernel
theorem d_MD_tell_1 : decode c_MD_tell 1 = .ok (.iconst 0, 1) := by decide +kernel
theorem d_MD_tell_2 : decode c_MD_tell 2 = .ok (.iconst 3, 1) := by decide +kernel
theorem d_MD_tell_3 : decode c_MD_tell 3 = .ok (.invokestatic 74, 3) := by decide +kernel
theorem d_MD_tell_6 : decode c_MD_tell 6 = .ok (.ifCond .ne 5, 3) := by decide +kernel
theorem d_MD_tell_9 : decode c_MD_tell 9 = .ok (.iconst (-1), 1) := by decide +kernel
theorem d_MD_tell_10 : decode c_MD_tell 10 = .ok (.ireturn, 1) := by decide +kernel
theorem d_MD_tell_11 : decode c_MD_tell 11 = .ok (.iload_n 2, 1) := by decide +kernel
theorem d_MD_tell_12 : decode c_MD_tell 12 = .ok (.iconst 1, 1) := by decide +kernel
theorem d_MD_tell_13 : decode c_MD_tell 13 = .ok (.aload_n 0, 1) := by decide +kernel
theorem d_MD_tell_14 : decode c_MD_tell 14 = .ok (.getfield 86, 3) := by decide +kernel
theorem d_MD_tell_17 : decode c_MD_tell 17 = .ok (.invokestatic 74, 3) := by decide +kernel
theorem d_MD_tell_20 : decode c_MD_tell 20 = .ok (.ifCond .eq 16, 3) := by decide +kernel
theorem d_MD_tell_23 : decode c_MD_tell 23 = .ok (.aload_n 0, 1) := by decide +kernel
theorem d_MD_tell_24 : decode c_MD_tell 24 = .ok (.getfield 41, 3) := by decide +kernel
theorem d_MD_tell_27 : decode c_MD_tell 27 = .ok (.iload_n 2, 1) := by decide +kernel
theorem d_MD_tell_28 : decode c_MD_tell 28 = .ok (.iaload, 1) := by decide +kernel
theorem d_MD_tell_29 : decode c_MD_tell 29 = .ok (.iload_n 1, 1) := by decide +kernel
theorem d_MD_tell_30 : decode c_MD_tell 30 = .ok (.ishr, 1) := by decide +kernel
theorem d_MD_tell_31 : decode c_MD_tell 31 = .ok (.iconst 1, 1) := by decide +kernel
theorem d_MD_tell_32 : decode c_MD_tell 32 = .ok (.iand, 1) := by decide +kernel
theorem d_MD_tell_33 : decode c_MD_tell 33 = .ok (.ifCond .ne 6, 3) := by decide +kernel
theorem d_MD_tell_36 : decode c_MD_tell 36 = .ok (.bipush (-2), 2) := by decide +kernel
theorem d_MD_tell_38 : decode c_MD_tell 38 = .ok (.ireturn, 1) := by decide +kernel
theorem d_MD_tell_39 : decode c_MD_tell 39 = .ok (.aload_n 0, 1) := by decide +kernel
theorem d_MD_tell_40 : decode c_MD_tell 40 = .ok (.getfield 29, 3) := by decide +kernel
theorem d_MD_tell_43 : decode c_MD_tell 43 = .ok (.iload_n 1, 1) := by decide +kernel
theorem d_MD_tell_44 : decode c_MD_tell 44 = .ok (.iaload, 1) := by decide +kernel
theorem d_MD_tell_45 : decode c_MD_tell 45 = .ok (.iload_n 2, 1) := by decide +kernel
theorem d_MD_tell_46 : decode c_MD_tell 46 = .ok (.if_icmp .lt 6, 3) := by decide +kernel
theorem d_MD_tell_49 : decode c_MD_tell 49 = .ok (.bipush (-3), 2) := by decide +kernel
theorem d_MD_tell_51 : decode c_MD_tell 51 = .ok (.ireturn, 1) := by decide +kernel
theorem d_MD_tell_52 : decode c_MD_tell 52 = .ok (.aload_n 0, 1) := by decide +kernel
theorem d_MD_tell_53 : decode c_MD_tell 53 = .ok (.getfield 44, 3) := by decide +kernel
theorem d_MD_tell_56 : decode c_MD_tell 56 = .ok (.iconst 4, 1) := by decide +kernel
theorem d_MD_tell_57 : decode c_MD_tell 57 = .ok (.iload_n 2, 1) := by decide +kernel
theorem d_MD_tell_58 : decode c_MD_tell 58 = .ok (.imul, 1) := by decide +kernel
theorem d_MD_tell_59 : decode c_MD_tell 59 = .ok (.iload_n 1, 1) := by decide +kernel
theorem d_MD_tell_60 : decode c_MD_tell 60 = .ok (.iadd, 1) := by decide +kernel
theorem d_MD_tell_61 : decode c_MD_tell 61 = .ok (.iaload, 1) := by decide +kernel
theorem d_MD_tell_62 : decode c_MD_tell 62 = .ok (.aload_n 0, 1) := by decide +kernel
theorem d_MD_tell_63 : decode c_MD_tell 63 = .ok (.getfield 13, 3) := by decide +kernel
theorem d_MD_tell_66 : decode c_MD_tell 66 = .ok (.iload_n 1, 1) := by decide +kernel
theorem d_MD_tell_67 : decode c_MD_tell 67 = .ok (.iaload, 1) := by decide +kernel
theorem d_MD_tell_68 : decode c_MD_tell 68 = .ok (.if_icmp .eq 6, 3) := by decide +kernel
theorem d_MD_tell_71 : decode c_MD_tell 71 = .ok (.bipush (-4), 2) := by decide +kernel
theorem d_MD_tell_73 : decode c_MD_tell 73 = .ok (.ireturn, 1) := by decide +kernel
theorem d_MD_tell_74 : decode c_MD_tell 74 = .ok (.aload_n 0, 1) := by decide +kernel
theorem d_MD_tell_75 : decode c_MD_tell 75 = .ok (.getfield 29, 3) := by decide +kernel
theorem d_MD_tell_78 : decode c_MD_tell 78 = .ok (.iload_n 1, 1) := by decide +kernel
theorem d_MD_tell_79 : decode c_MD_tell 79 = .ok (.iload_n 2, 1) := by decide +kernel
theorem d_MD_tell_80 : decode c_MD_tell 80 = .ok (.iastore, 1) := by decide +kernel
theorem d_MD_tell_81 : decode c_MD_tell 81 = .ok (.aload_n 0, 1) := by decide +kernel
theorem d_MD_tell_82 : decode c_MD_tell 82 = .ok (.getfield 26, 3) := by decide +kernel
theorem d_MD_tell_85 : decode c_MD_tell 85 = .ok (.iload_n 1, 1) := by decide +kernel
theorem d_MD_tell_86 : decode c_MD_tell 86 = .ok (.iload_n 2, 1) := by decide +kernel
theorem d_MD_tell_87 : decode c_MD_tell 87 = .ok (.iastore, 1) := by decide +kernel
theorem d_MD_tell_88 : decode c_MD_tell 88 = .ok (.iconst 0, 1) := by decide +kernel
theorem d_MD_tell_89 : decode c_MD_tell 89 = .ok (.ireturn, 1) := by decide +kernel
theorem d_MD_carry_0 : decode c_MD_carry 0 = .ok (.iload_n 1, 1) := by decide +kernel
theorem d_MD_carry_1 : decode c_MD_carry 1 = .ok (.iconst 0, 1) := by decide +kernel
theorem d_MD_carry_2 : decode c_MD_carry 2 = .ok (.iconst 3, 1) := by decide +kernel
theorem d_MD_carry_3 : decode c_MD_carry 3 = .ok (.invokestatic 74, 3) := by decide +kernel
theorem d_MD_carry_6 : decode c_MD_carry 6 = .ok (.ifCond .eq 17, 3) := by decide +kernel
theorem d_MD_carry_9 : decode c_MD_carry 9 = .ok (.iload_n 2, 1) := by decide +kernel
theorem d_MD_carry_10 : decode c_MD_carry 10 = .ok (.iconst 0, 1) := by decide +kernel
theorem d_MD_carry_11 : decode c_MD_carry 11 = .ok (.iconst 3, 1) := by decide +kernel
theorem d_MD_carry_12 : decode c_MD_carry 12 = .ok (.invokestatic 74, 3) := by decide +kernel
theorem d_MD_carry_15 : decode c_MD_carry 15 = .ok (.ifCond .eq 8, 3) := by decide +kernel
theorem d_MD_carry_18 : decode c_MD_carry 18 = .ok (.iload_n 1, 1) := by decide +kernel
theorem d_MD_carry_19 : decode c_MD_carry 19 = .ok (.iload_n 2, 1) := by decide +kernel
theorem d_MD_carry_20 : decode c_MD_carry 20 = .ok (.if_icmp .ne 5, 3) := by decide +kernel
theorem d_MD_carry_23 : decode c_MD_carry 23 = .ok (.iconst (-1), 1) := by decide +kernel
theorem d_MD_carry_24 : decode c_MD_carry 24 = .ok (.ireturn, 1) := by decide +kernel
theorem d_MD_carry_25 : decode c_MD_carry 25 = .ok (.iconst 4, 1) := by decide +kernel
theorem d_MD_carry_26 : decode c_MD_carry 26 = .ok (.iload_n 1, 1) := by decide +kernel
theorem d_MD_carry_27 : decode c_MD_carry 27 = .ok (.imul, 1) := by decide +kernel
theorem d_MD_carry_28 : decode c_MD_carry 28 = .ok (.iload_n 2, 1) := by decide +kernel
theorem d_MD_carry_29 : decode c_MD_carry 29 = .ok (.iadd, 1) := by decide +kernel
theorem d_MD_carry_30 : decode c_MD_carry 30 = .ok (.istore_n 3, 1) := by decide +kernel
theorem d_MD_carry_31 : decode c_MD_carry 31 = .ok (.aload_n 0, 1) := by decide +kernel
theorem d_MD_carry_32 : decode c_MD_carry 32 = .ok (.getfield 68, 3) := by decide +kernel
theorem d_MD_carry_35 : decode c_MD_carry 35 = .ok (.iload_n 3, 1) := by decide +kernel
theorem d_MD_carry_36 : decode c_MD_carry 36 = .ok (.iaload, 1) := by decide +kernel
theorem d_MD_carry_37 : decode c_MD_carry 37 = .ok (.ifCond .ne 5, 3) := by decide +kernel
theorem d_MD_carry_40 : decode c_MD_carry 40 = .ok (.iconst 0, 1) := by decide +kernel
theorem d_MD_carry_41 : decode c_MD_carry 41 = .ok (.ireturn, 1) := by decide +kernel
theorem d_MD_carry_42 : decode c_MD_carry 42 = .ok (.aload_n 0, 1) := by decide +kernel
theorem d_MD_carry_43 : decode c_MD_carry 43 = .ok (.getfield 65, 3) := by decide +kernel
theorem d_MD_carry_46 : decode c_MD_carry 46 = .ok (.bipush 80, 2) := by decide +kernel
theorem d_MD_carry_48 : decode c_MD_carry 48 = .ok (.iload_n 3, 1) := by decide +kernel
theorem d_MD_carry_49 : decode c_MD_carry 49 = .ok (.imul, 1) := by decide +kernel
theorem d_MD_carry_50 : decode c_MD_carry 50 = .ok (.iaload, 1) := by decide +kernel
theorem d_MD_carry_51 : decode c_MD_carry 51 = .ok (.istore 4, 2) := by decide +kernel
theorem d_MD_carry_53 : decode c_MD_carry 53 = .ok (.aload_n 0, 1) := by decide +kernel
theorem d_MD_carry_54 : decode c_MD_carry 54 = .ok (.getfield 68, 3) := by decide +kernel
theorem d_MD_carry_57 : decode c_MD_carry 57 = .ok (.iload_n 3, 1) := by decide +kernel
theorem d_MD_carry_58 : decode c_MD_carry 58 = .ok (.dup2, 1) := by decide +kernel
theorem d_MD_carry_59 : decode c_MD_carry 59 = .ok (.iaload, 1) := by decide +kernel
theorem d_MD_carry_60 : decode c_MD_carry 60 = .ok (.iconst 1, 1) := by decide +kernel
theorem d_MD_carry_61 : decode c_MD_carry 61 = .ok (.isub, 1) := by decide +kernel
theorem d_MD_carry_62 : decode c_MD_carry 62 = .ok (.iastore, 1) := by decide +kernel
theorem d_MD_carry_63 : decode c_MD_carry 63 = .ok (.iconst 0, 1) := by decide +kernel
theorem d_MD_carry_64 : decode c_MD_carry 64 = .ok (.istore 5, 2) := by decide +kernel
theorem d_MD_carry_66 : decode c_MD_carry 66 = .ok (.iload 5, 2) := by decide +kernel
theorem d_MD_carry_68 : decode c_MD_carry 68 = .ok (.aload_n 0, 1) := by decide +kernel
theorem d_MD_carry_69 : decode c_MD_carry 69 = .ok (.getfield 68, 3) := by decide +kernel
theorem d_MD_carry_72 : decode c_MD_carry 72 = .ok (.iload_n 3, 1) := by decide +kernel
theorem d_MD_carry_73 : decode c_MD_carry 73 = .ok (.iaload, 1) := by decide +kernel
theorem d_MD_carry_74 : decode c_MD_carry 74 = .ok (.if_icmp .ge 35, 3) := by decide +kernel
theorem d_MD_carry_77 : decode c_MD_carry 77 = .ok (.aload_n 0, 1) := by decide +kernel
theorem d_MD_carry_78 : decode c_MD_carry 78 = .ok (.getfield 65, 3) := by decide +kernel
theorem d_MD_carry_81 : decode c_MD_carry 81 = .ok (.bipush 80, 2) := by decide +kernel
theorem d_MD_carry_83 : decode c_MD_carry 83 = .ok (.iload_n 3, 1) := by decide +kernel
theorem d_MD_carry_84 : decode c_MD_carry 84 = .ok (.imul, 1) := by decide +kernel
theorem d_MD_carry_85 : decode c_MD_carry 85 = .ok (.iload 5, 2) := by decide +kernel
theorem d_MD_carry_87 : decode c_MD_carry 87 = .ok (.iadd, 1) := by decide +kernel
theorem d_MD_carry_88 : decode c_MD_carry 88 = .ok (.aload_n 0, 1) := by decide +kernel
theorem d_MD_carry_89 : decode c_MD_carry 89 = .ok (.getfield 65, 3) := by decide +kernel
theorem d_MD_carry_92 : decode c_MD_carry 92 = .ok (.bipush 80, 2) := by decide +kernel
theorem d_MD_carry_94 : decode c_MD_carry 94 = .ok (.iload_n 3, 1) := by decide +kernel
theorem d_MD_carry_95 : decode c_MD_carry 95 = .ok (.imul, 1) := by decide +kernel
theorem d_MD_carry_96 : decode c_MD_carry 96 = .ok (.iload 5, 2) := by decide +kernel
theorem d_MD_carry_98 : decode c_MD_carry 98 = .ok (.iadd, 1) := by decide +kernel
theorem d_MD_carry_99 : decode c_MD_carry 99 = .ok (.iconst 1, 1) := by decide +kernel
theorem d_MD_carry_100 : decode c_MD_carry 100 = .ok (.iadd, 1) := by decide +kernel
theorem d_MD_carry_101 : decode c_MD_carry 101 = .ok (.iaload, 1) := by decide +kernel
theorem d_MD_carry_102 : decode c_MD_carry 102 = .ok (.iastore, 1) := by decide +kernel
theorem d_MD_carry_103 : decode c_MD_carry 103 = .ok (.iinc 5 1, 3) := by decide +kernel
theorem d_MD_carry_106 : decode c_MD_carry 106 = .ok (.goto (-40), 3) := by decide +kernel
theorem d_MD_carry_109 : decode c_MD_carry 109 = .ok (.iload 4, 2) := by decide +kernel
theorem d_MD_carry_111 : decode c_MD_carry 111 = .ok (.sipush 256, 3) := by decide +kernel
theorem d_MD_carry_114 : decode c_MD_carry 114 = .ok (.if_icmp .ge 19, 3) := by decide +kernel
theorem d_MD_carry_117 : decode c_MD_carry 117 = .ok (.aload_n 0, 1) := by decide +kernel
theorem d_MD_carry_118 : decode c_MD_carry 118 = .ok (.getfield 53, 3) := by decide +kernel
theorem d_MD_carry_121 : decode c_MD_carry 121 = .ok (.sipush 256, 3) := by decide +kernel
theorem d_MD_carry_124 : decode c_MD_carry 124 = .ok (.iload_n 2, 1) := by decide +kernel
theorem d_MD_carry_125 : decode c_MD_carry 125 = .ok (.imul, 1) := by decide +kernel
theorem d_MD_carry_126 : decode c_MD_carry 126 = .ok (.iload 4, 2) := by decide +kernel
theorem d_MD_carry_128 : decode c_MD_carry 128 = .ok (.iadd, 1) := by decide +kernel
theorem d_MD_carry_129 : decode c_MD_carry 129 = .ok (.iconst 1, 1) := by decide +kernel
theorem d_MD_carry_130 : decode c_MD_carry 130 = .ok (.bastore, 1) := by decide +kernel
theorem d_MD_carry_131 : decode c_MD_carry 131 = .ok (.iconst 1, 1) := by decide +kernel
theorem d_MD_carry_132 : decode c_MD_carry 132 = .ok (.ireturn, 1) := by decide +kernel
theorem d_MD_carry_133 : decode c_MD_carry 133 = .ok (.iload 4, 2) := by decide +kernel
theorem d_MD_carry_135 : decode c_MD_carry 135 = .ok (.sipush 256, 3) := by decide +kernel
theorem d_MD_carry_138 : decode c_MD_carry 138 = .ok (.isub, 1) := by decide +kernel
theorem d_MD_carry_139 : decode c_MD_carry 139 = .ok (.istore 5, 2) := by decide +kernel
theorem d_MD_carry_141 : decode c_MD_carry 141 = .ok (.aload_n 0, 1) := by decide +kernel
theorem d_MD_carry_142 : decode c_MD_carry 142 = .ok (.getfield 62, 3) := by decide +kernel
theorem d_MD_carry_145 : decode c_MD_carry 145 = .ok (.bipush 64, 2) := by decide +kernel
theorem d_MD_carry_147 : decode c_MD_carry 147 = .ok (.iload_n 2, 1) := by decide +kernel
theorem d_MD_carry_148 : decode c_MD_carry 148 = .ok (.imul, 1) := by decide +kernel
theorem d_MD_carry_149 : decode c_MD_carry 149 = .ok (.iload 5, 2) := by decide +kernel
theorem d_MD_carry_151 : decode c_MD_carry 151 = .ok (.iadd, 1) := by decide +kernel
theorem d_MD_carry_152 : decode c_MD_carry 152 = .ok (.iconst 1, 1) := by decide +kernel
theorem d_MD_carry_153 : decode c_MD_carry 153 = .ok (.bastore, 1) := by decide +kernel
theorem d_MD_carry_154 : decode c_MD_carry 154 = .ok (.aload_n 0, 1) := by decide +kernel
theorem d_MD_carry_155 : decode c_MD_carry 155 = .ok (.getfield 56, 3) := by decide +kernel
theorem d_MD_carry_158 : decode c_MD_carry 158 = .ok (.iload 5, 2) := by decide +kernel
theorem d_MD_carry_160 : decode c_MD_carry 160 = .ok (.iaload, 1) := by decide +kernel
theorem d_MD_carry_161 : decode c_MD_carry 161 = .ok (.ifCond .le 74, 3) := by decide +kernel
theorem d_MD_carry_164 : decode c_MD_carry 164 = .ok (.iconst 0, 1) := by decide +kernel
theorem d_MD_carry_165 : decode c_MD_carry 165 = .ok (.istore 6, 2) := by decide +kernel
theorem d_MD_carry_167 : decode c_MD_carry 167 = .ok (.iload 6, 2) := by decide +kernel
theorem d_MD_carry_169 : decode c_MD_carry 169 = .ok (.iconst 4, 1) := by decide +kernel
theorem d_MD_carry_170 : decode c_MD_carry 170 = .ok (.if_icmp .ge 65, 3) := by decide +kernel
theorem d_MD_carry_173 : decode c_MD_carry 173 = .ok (.iconst 0, 1) := by decide +kernel
theorem d_MD_carry_174 : decode c_MD_carry 174 = .ok (.istore 7, 2) := by decide +kernel
theorem d_MD_carry_176 : decode c_MD_carry 176 = .ok (.iload 7, 2) := by decide +kernel
theorem d_MD_carry_178 : decode c_MD_carry 178 = .ok (.aload_n 0, 1) := by decide +kernel
theorem d_MD_carry_179 : decode c_MD_carry 179 = .ok (.getfield 59, 3) := by decide +kernel
theorem d_MD_carry_182 : decode c_MD_carry 182 = .ok (.iconst 4, 1) := by decide +kernel
theorem d_MD_carry_183 : decode c_MD_carry 183 = .ok (.iload 5, 2) := by decide +kernel
theorem d_MD_carry_185 : decode c_MD_carry 185 = .ok (.imul, 1) := by decide +kernel
theorem d_MD_carry_186 : decode c_MD_carry 186 = .ok (.iload 6, 2) := by decide +kernel
theorem d_MD_carry_188 : decode c_MD_carry 188 = .ok (.iadd, 1) := by decide +kernel
theorem d_MD_carry_189 : decode c_MD_carry 189 = .ok (.iaload, 1) := by decide +kernel
theorem d_MD_carry_190 : decode c_MD_carry 190 = .ok (.if_icmp .ge 39, 3) := by decide +kernel
theorem d_MD_carry_193 : decode c_MD_carry 193 = .ok (.aload_n 0, 1) := by decide +kernel
theorem d_MD_carry_194 : decode c_MD_carry 194 = .ok (.getfield 53, 3) := by decide +kernel
theorem d_MD_carry_197 : decode c_MD_carry 197 = .ok (.sipush 256, 3) := by decide +kernel
theorem d_MD_carry_200 : decode c_MD_carry 200 = .ok (.iload_n 2, 1) := by decide +kernel
theorem d_MD_carry_201 : decode c_MD_carry 201 = .ok (.imul, 1) := by decide +kernel
theorem d_MD_carry_202 : decode c_MD_carry 202 = .ok (.bipush 16, 2) := by decide +kernel
theorem d_MD_carry_204 : decode c_MD_carry 204 = .ok (.aload_n 0, 1) := by decide +kernel
theorem d_MD_carry_205 : decode c_MD_carry 205 = .ok (.getfield 56, 3) := by decide +kernel
theorem d_MD_carry_208 : decode c_MD_carry 208 = .ok (.iload 5, 2) := by decide +kernel
theorem d_MD_carry_210 : decode c_MD_carry 210 = .ok (.iaload, 1) := by decide +kernel
theorem d_MD_carry_211 : decode c_MD_carry 211 = .ok (.imul, 1) := by decide +kernel
theorem d_MD_carry_212 : decode c_MD_carry 212 = .ok (.iadd, 1) := by decide +kernel
theorem d_MD_carry_213 : decode c_MD_carry 213 = .ok (.iconst 4, 1) := by decide +kernel
theorem d_MD_carry_214 : decode c_MD_carry 214 = .ok (.iload 6, 2) := by decide +kernel
theorem d_MD_carry_216 : decode c_MD_carry 216 = .ok (.imul, 1) := by decide +kernel
theorem d_MD_carry_217 : decode c_MD_carry 217 = .ok (.iadd, 1) := by decide +kernel
theorem d_MD_carry_218 : decode c_MD_carry 218 = .ok (.iload 7, 2) := by decide +kernel
theorem d_MD_carry_220 : decode c_MD_carry 220 = .ok (.iadd, 1) := by decide +kernel
theorem d_MD_carry_221 : decode c_MD_carry 221 = .ok (.iconst 1, 1) := by decide +kernel
theorem d_MD_carry_222 : decode c_MD_carry 222 = .ok (.bastore, 1) := by decide +kernel
theorem d_MD_carry_223 : decode c_MD_carry 223 = .ok (.iinc 7 1, 3) := by decide +kernel
theorem d_MD_carry_226 : decode c_MD_carry 226 = .ok (.goto (-50), 3) := by decide +kernel
theorem d_MD_carry_229 : decode c_MD_carry 229 = .ok (.iinc 6 1, 3) := by decide +kernel
theorem d_MD_carry_232 : decode c_MD_carry 232 = .ok (.goto (-65), 3) := by decide +kernel
theorem d_MD_carry_235 : decode c_MD_carry 235 = .ok (.iconst 2, 1) := by decide +kernel
theorem d_MD_carry_236 : decode c_MD_carry 236 = .ok (.ireturn, 1) := by decide +kernel
theorem d_MD_limits_0 : decode c_MD_limits 0 = .ok (.aload_n 0, 1) := by decide +kernel
theorem d_MD_limits_1 : decode c_MD_limits 1 = .ok (.iconst 0, 1) := by decide +kernel
theorem d_MD_limits_2 : decode c_MD_limits 2 = .ok (.putfield 90, 3) := by decide +kernel
theorem d_MD_limits_5 : decode c_MD_limits 5 = .ok (.iconst 0, 1) := by decide +kernel
theorem d_MD_limits_6 : decode c_MD_limits 6 = .ok (.istore_n 2, 1) := by decide +kernel
theorem d_MD_limits_7 : decode c_MD_limits 7 = .ok (.iload_n 2, 1) := by decide +kernel
theorem d_MD_limits_8 : decode c_MD_limits 8 = .ok (.iconst 4, 1) := by decide +kernel
theorem d_MD_limits_9 : decode c_MD_limits 9 = .ok (.if_icmp .ge 29, 3) := by decide +kernel
theorem d_MD_limits_12 : decode c_MD_limits 12 = .ok (.aload_n 0, 1) := by decide +kernel
theorem d_MD_limits_13 : decode c_MD_limits 13 = .ok (.getfield 71, 3) := by decide +kernel
theorem d_MD_limits_16 : decode c_MD_limits 16 = .ok (.iload_n 2, 1) := by decide +kernel
theorem d_MD_limits_17 : decode c_MD_limits 17 = .ok (.aload_n 0, 1) := by decide +kernel
theorem d_MD_limits_18 : decode c_MD_limits 18 = .ok (.getfield 23, 3) := by decide +kernel
theorem d_MD_limits_21 : decode c_MD_limits 21 = .ok (.iload_n 1, 1) := by decide +kernel
theorem d_MD_limits_22 : decode c_MD_limits 22 = .ok (.baload, 1) := by decide +kernel
theorem d_MD_limits_23 : decode c_MD_limits 23 = .ok (.ifCond .eq 7, 3) := by decide +kernel
theorem d_MD_limits_26 : decode c_MD_limits 26 = .ok (.iconst 0, 1) := by decide +kernel
theorem d_MD_limits_27 : decode c_MD_limits 27 = .ok (.goto 4, 3) := by decide +kernel
theorem d_MD_limits_30 : decode c_MD_limits 30 = .ok (.iconst 4, 1) := by decide +kernel
theorem d_MD_limits_31 : decode c_MD_limits 31 = .ok (.iastore, 1) := by decide +kernel
theorem d_MD_limits_32 : decode c_MD_limits 32 = .ok (.iinc 2 1, 3) := by decide +kernel
theorem d_MD_limits_35 : decode c_MD_limits 35 = .ok (.goto (-28), 3) := by decide +kernel
theorem d_MD_limits_38 : decode c_MD_limits 38 = .ok (.aload_n 0, 1) := by decide +kernel
theorem d_MD_limits_39 : decode c_MD_limits 39 = .ok (.getfield 23, 3) := by decide +kernel
theorem d_MD_limits_42 : decode c_MD_limits 42 = .ok (.iload_n 1, 1) := by decide +kernel
theorem d_MD_limits_43 : decode c_MD_limits 43 = .ok (.baload, 1) := by decide +kernel
theorem d_MD_limits_44 : decode c_MD_limits 44 = .ok (.ifCond .ne 5, 3) := by decide +kernel
theorem d_MD_limits_47 : decode c_MD_limits 47 = .ok (.iconst 1, 1) := by decide +kernel
theorem d_MD_limits_48 : decode c_MD_limits 48 = .ok (.ireturn, 1) := by decide +kernel
theorem d_MD_limits_49 : decode c_MD_limits 49 = .ok (.aload_n 0, 1) := by decide +kernel
theorem d_MD_limits_50 : decode c_MD_limits 50 = .ok (.getfield 26, 3) := by decide +kernel
theorem d_MD_limits_53 : decode c_MD_limits 53 = .ok (.iload_n 1, 1) := by decide +kernel
theorem d_MD_limits_54 : decode c_MD_limits 54 = .ok (.iaload, 1) := by decide +kernel
theorem d_MD_limits_55 : decode c_MD_limits 55 = .ok (.istore_n 2, 1) := by decide +kernel
theorem d_MD_limits_56 : decode c_MD_limits 56 = .ok (.iload_n 2, 1) := by decide +kernel
theorem d_MD_limits_57 : decode c_MD_limits 57 = .ok (.ifCond .ne 5, 3) := by decide +kernel
theorem d_MD_limits_60 : decode c_MD_limits 60 = .ok (.iconst 0, 1) := by decide +kernel
theorem d_MD_limits_61 : decode c_MD_limits 61 = .ok (.ireturn, 1) := by decide +kernel
theorem d_MD_limits_62 : decode c_MD_limits 62 = .ok (.aload_n 0, 1) := by decide +kernel
theorem d_MD_limits_63 : decode c_MD_limits 63 = .ok (.getfield 41, 3) := by decide +kernel
theorem d_MD_limits_66 : decode c_MD_limits 66 = .ok (.iload_n 2, 1) := by decide +kernel
theorem d_MD_limits_67 : decode c_MD_limits 67 = .ok (.iaload, 1) := by decide +kernel
theorem d_MD_limits_68 : decode c_MD_limits 68 = .ok (.aload_n 0, 1) := by decide +kernel
theorem d_MD_limits_69 : decode c_MD_limits 69 = .ok (.iload_n 1, 1) := by decide +kernel
theorem d_MD_limits_70 : decode c_MD_limits 70 = .ok (.invokevirtual 78, 3) := by decide +kernel
theorem d_MD_limits_73 : decode c_MD_limits 73 = .ok (.iand, 1) := by decide +kernel
theorem d_MD_limits_74 : decode c_MD_limits 74 = .ok (.istore_n 3, 1) := by decide +kernel
theorem d_MD_limits_75 : decode c_MD_limits 75 = .ok (.iconst 0, 1) := by decide +kernel
theorem d_MD_limits_76 : decode c_MD_limits 76 = .ok (.istore 4, 2) := by decide +kernel
theorem d_MD_limits_78 : decode c_MD_limits 78 = .ok (.iload 4, 2) := by decide +kernel
theorem d_MD_limits_80 : decode c_MD_limits 80 = .ok (.iconst 4, 1) := by decide +kernel
theorem d_MD_limits_81 : decode c_MD_limits 81 = .ok (.if_icmp .ge 160, 3) := by decide +kernel
theorem d_MD_limits_84 : decode c_MD_limits 84 = .ok (.bipush 16, 2) := by decide +kernel
theorem d_MD_limits_86 : decode c_MD_limits 86 = .ok (.iload 4, 2) := by decide +kernel
theorem d_MD_limits_88 : decode c_MD_limits 88 = .ok (.imul, 1) := by decide +kernel
theorem d_MD_limits_89 : decode c_MD_limits 89 = .ok (.aload_n 0, 1) := by decide +kernel
theorem d_MD_limits_90 : decode c_MD_limits 90 = .ok (.getfield 44, 3) := by decide +kernel
theorem d_MD_limits_93 : decode c_MD_limits 93 = .ok (.iconst 4, 1) := by decide +kernel
theorem d_MD_limits_94 : decode c_MD_limits 94 = .ok (.iload_n 2, 1) := by decide +kernel
theorem d_MD_limits_95 : decode c_MD_limits 95 = .ok (.imul, 1) := by decide +kernel
theorem d_MD_limits_96 : decode c_MD_limits 96 = .ok (.iload 4, 2) := by decide +kernel
theorem d_MD_limits_98 : decode c_MD_limits 98 = .ok (.iadd, 1) := by decide +kernel
theorem d_MD_limits_99 : decode c_MD_limits 99 = .ok (.iaload, 1) := by decide +kernel
theorem d_MD_limits_100 : decode c_MD_limits 100 = .ok (.iadd, 1) := by decide +kernel
theorem d_MD_limits_101 : decode c_MD_limits 101 = .ok (.istore 5, 2) := by decide +kernel
theorem d_MD_limits_103 : decode c_MD_limits 103 = .ok (.iload_n 3, 1) := by decide +kernel
theorem d_MD_limits_104 : decode c_MD_limits 104 = .ok (.iload 4, 2) := by decide +kernel
theorem d_MD_limits_106 : decode c_MD_limits 106 = .ok (.ishr, 1) := by decide +kernel
theorem d_MD_limits_107 : decode c_MD_limits 107 = .ok (.iconst 1, 1) := by decide +kernel
theorem d_MD_limits_108 : decode c_MD_limits 108 = .ok (.iand, 1) := by decide +kernel
theorem d_MD_limits_109 : decode c_MD_limits 109 = .ok (.ifCond .ne 6, 3) := by decide +kernel
theorem d_MD_limits_112 : decode c_MD_limits 112 = .ok (.goto 123, 3) := by decide +kernel
theorem d_MD_limits_115 : decode c_MD_limits 115 = .ok (.aload_n 0, 1) := by decide +kernel
theorem d_MD_limits_116 : decode c_MD_limits 116 = .ok (.getfield 62, 3) := by decide +kernel
theorem d_MD_limits_119 : decode c_MD_limits 119 = .ok (.bipush 64, 2) := by decide +kernel
theorem d_MD_limits_121 : decode c_MD_limits 121 = .ok (.iload_n 1, 1) := by decide +kernel
theorem d_MD_limits_122 : decode c_MD_limits 122 = .ok (.imul, 1) := by decide +kernel
theorem d_MD_limits_123 : decode c_MD_limits 123 = .ok (.iload 5, 2) := by decide +kernel
theorem d_MD_limits_125 : decode c_MD_limits 125 = .ok (.iadd, 1) := by decide +kernel
theorem d_MD_limits_126 : decode c_MD_limits 126 = .ok (.baload, 1) := by decide +kernel
theorem d_MD_limits_127 : decode c_MD_limits 127 = .ok (.ifCond .ne 5, 3) := by decide +kernel
theorem d_MD_limits_130 : decode c_MD_limits 130 = .ok (.iconst 0, 1) := by decide +kernel
theorem d_MD_limits_131 : decode c_MD_limits 131 = .ok (.ireturn, 1) := by decide +kernel
theorem d_MD_limits_132 : decode c_MD_limits 132 = .ok (.aload_n 0, 1) := by decide +kernel
theorem d_MD_limits_133 : decode c_MD_limits 133 = .ok (.getfield 56, 3) := by decide +kernel
theorem d_MD_limits_136 : decode c_MD_limits 136 = .ok (.iload 5, 2) := by decide +kernel
theorem d_MD_limits_138 : decode c_MD_limits 138 = .ok (.iaload, 1) := by decide +kernel
theorem d_MD_limits_139 : decode c_MD_limits 139 = .ok (.aload_n 0, 1) := by decide +kernel
theorem d_MD_limits_140 : decode c_MD_limits 140 = .ok (.getfield 7, 3) := by decide +kernel
theorem d_MD_limits_143 : decode c_MD_limits 143 = .ok (.iload_n 1, 1) := by decide +kernel
theorem d_MD_limits_144 : decode c_MD_limits 144 = .ok (.iaload, 1) := by decide +kernel
theorem d_MD_limits_145 : decode c_MD_limits 145 = .ok (.if_icmp .ne 90, 3) := by decide +kernel
theorem d_MD_limits_148 : decode c_MD_limits 148 = .ok (.aload_n 0, 1) := by decide +kernel
theorem d_MD_limits_149 : decode c_MD_limits 149 = .ok (.getfield 7, 3) := by decide +kernel
theorem d_MD_limits_152 : decode c_MD_limits 152 = .ok (.iload_n 1, 1) := by decide +kernel
theorem d_MD_limits_153 : decode c_MD_limits 153 = .ok (.iaload, 1) := by decide +kernel
theorem d_MD_limits_154 : decode c_MD_limits 154 = .ok (.ifCond .ne 12, 3) := by decide +kernel
theorem d_MD_limits_157 : decode c_MD_limits 157 = .ok (.iload 4, 2) := by decide +kernel
theorem d_MD_limits_159 : decode c_MD_limits 159 = .ok (.iload_n 1, 1) := by decide +kernel
theorem d_MD_limits_160 : decode c_MD_limits 160 = .ok (.if_icmp .eq 6, 3) := by decide +kernel
theorem d_MD_limits_163 : decode c_MD_limits 163 = .ok (.goto 72, 3) := by decide +kernel
theorem d_MD_limits_166 : decode c_MD_limits 166 = .ok (.aload_n 0, 1) := by decide +kernel
theorem d_MD_limits_167 : decode c_MD_limits 167 = .ok (.aload_n 0, 1) := by decide +kernel
theorem d_MD_limits_168 : decode c_MD_limits 168 = .ok (.getfield 90, 3) := by decide +kernel
theorem d_MD_limits_171 : decode c_MD_limits 171 = .ok (.iconst 1, 1) := by decide +kernel
theorem d_MD_limits_172 : decode c_MD_limits 172 = .ok (.iload 4, 2) := by decide +kernel
theorem d_MD_limits_174 : decode c_MD_limits 174 = .ok (.ishl, 1) := by decide +kernel
theorem d_MD_limits_175 : decode c_MD_limits 175 = .ok (.ior, 1) := by decide +kernel
theorem d_MD_limits_176 : decode c_MD_limits 176 = .ok (.putfield 90, 3) := by decide +kernel
theorem d_MD_limits_179 : decode c_MD_limits 179 = .ok (.iconst 0, 1) := by decide +kernel
theorem d_MD_limits_180 : decode c_MD_limits 180 = .ok (.istore 6, 2) := by decide +kernel
theorem d_MD_limits_182 : decode c_MD_limits 182 = .ok (.iload 6, 2) := by decide +kernel
theorem d_MD_limits_184 : decode c_MD_limits 184 = .ok (.iconst 4, 1) := by decide +kernel
theorem d_MD_limits_185 : decode c_MD_limits 185 = .ok (.if_icmp .ge 50, 3) := by decide +kernel
theorem d_MD_limits_188 : decode c_MD_limits 188 = .ok (.aload_n 0, 1) := by decide +kernel
theorem d_MD_limits_189 : decode c_MD_limits 189 = .ok (.getfield 59, 3) := by decide +kernel
theorem d_MD_limits_192 : decode c_MD_limits 192 = .ok (.iconst 4, 1) := by decide +kernel
theorem d_MD_limits_193 : decode c_MD_limits 193 = .ok (.iload 5, 2) := by decide +kernel
theorem d_MD_limits_195 : decode c_MD_limits 195 = .ok (.imul, 1) := by decide +kernel
theorem d_MD_limits_196 : decode c_MD_limits 196 = .ok (.iload 6, 2) := by decide +kernel
theorem d_MD_limits_198 : decode c_MD_limits 198 = .ok (.iadd, 1) := by decide +kernel
theorem d_MD_limits_199 : decode c_MD_limits 199 = .ok (.iaload, 1) := by decide +kernel
theorem d_MD_limits_200 : decode c_MD_limits 200 = .ok (.aload_n 0, 1) := by decide +kernel
theorem d_MD_limits_201 : decode c_MD_limits 201 = .ok (.getfield 71, 3) := by decide +kernel
theorem d_MD_limits_204 : decode c_MD_limits 204 = .ok (.iload 6, 2) := by decide +kernel
theorem d_MD_limits_206 : decode c_MD_limits 206 = .ok (.iaload, 1) := by decide +kernel
theorem d_MD_limits_207 : decode c_MD_limits 207 = .ok (.if_icmp .le 22, 3) := by decide +kernel
theorem d_MD_limits_210 : decode c_MD_limits 210 = .ok (.aload_n 0, 1) := by decide +kernel
theorem d_MD_limits_211 : decode c_MD_limits 211 = .ok (.getfield 71, 3) := by decide +kernel
theorem d_MD_limits_214 : decode c_MD_limits 214 = .ok (.iload 6, 2) := by decide +kernel
theorem d_MD_limits_216 : decode c_MD_limits 216 = .ok (.aload_n 0, 1) := by decide +kernel
theorem d_MD_limits_217 : decode c_MD_limits 217 = .ok (.getfield 59, 3) := by decide +kernel
theorem d_MD_limits_220 : decode c_MD_limits 220 = .ok (.iconst 4, 1) := by decide +kernel
theorem d_MD_limits_221 : decode c_MD_limits 221 = .ok (.iload 5, 2) := by decide +kernel
theorem d_MD_limits_223 : decode c_MD_limits 223 = .ok (.imul, 1) := by decide +kernel
theorem d_MD_limits_224 : decode c_MD_limits 224 = .ok (.iload 6, 2) := by decide +kernel
theorem d_MD_limits_226 : decode c_MD_limits 226 = .ok (.iadd, 1) := by decide +kernel
theorem d_MD_limits_227 : decode c_MD_limits 227 = .ok (.iaload, 1) := by decide +kernel
theorem d_MD_limits_228 : decode c_MD_limits 228 = .ok (.iastore, 1) := by decide +kernel
theorem d_MD_limits_229 : decode c_MD_limits 229 = .ok (.iinc 6 1, 3) := by decide +kernel
theorem d_MD_limits_232 : decode c_MD_limits 232 = .ok (.goto (-50), 3) := by decide +kernel
theorem d_MD_limits_235 : decode c_MD_limits 235 = .ok (.iinc 4 1, 3) := by decide +kernel
theorem d_MD_limits_238 : decode c_MD_limits 238 = .ok (.goto (-160), 3) := by decide +kernel
theorem d_MD_limits_241 : decode c_MD_limits 241 = .ok (.iconst 2, 1) := by decide +kernel
theorem d_MD_limits_242 : decode c_MD_limits 242 = .ok (.ireturn, 1) := by decide +kernel
theorem d_MD_deliverable_0 : decode c_MD_deliverable 0 = .ok (.aload_n 0, 1) := by decide +kernel
theorem d_MD_deliverable_1 : decode c_MD_deliverable 1 = .ok (.getfield 35, 3) := by decide +kernel
theorem d_MD_deliverable_4 : decode c_MD_deliverable 4 = .ok (.iconst 4, 1) := by decide +kernel
theorem d_MD_deliverable_5 : decode c_MD_deliverable 5 = .ok (.iload_n 1, 1) := by decide +kernel
theorem d_MD_deliverable_6 : decode c_MD_deliverable 6 = .ok (.imul, 1) := by decide +kernel
theorem d_MD_deliverable_7 : decode c_MD_deliverable 7 = .ok (.iload_n 2, 1) := by decide +kernel
theorem d_MD_deliverable_8 : decode c_MD_deliverable 8 = .ok (.iadd, 1) := by decide +kernel
theorem d_MD_deliverable_9 : decode c_MD_deliverable 9 = .ok (.iaload, 1) := by decide +kernel
theorem d_MD_deliverable_10 : decode c_MD_deliverable 10 = .ok (.istore_n 3, 1) := by decide +kernel
theorem d_MD_deliverable_11 : decode c_MD_deliverable 11 = .ok (.iload_n 3, 1) := by decide +kernel
theorem d_MD_deliverable_12 : decode c_MD_deliverable 12 = .ok (.aload_n 0, 1) := by decide +kernel
theorem d_MD_deliverable_13 : decode c_MD_deliverable 13 = .ok (.getfield 71, 3) := by decide +kernel
theorem d_MD_deliverable_16 : decode c_MD_deliverable 16 = .ok (.iload_n 2, 1) := by decide +kernel
theorem d_MD_deliverable_17 : decode c_MD_deliverable 17 = .ok (.iaload, 1) := by decide +kernel
theorem d_MD_deliverable_18 : decode c_MD_deliverable 18 = .ok (.if_icmp .lt 5, 3) := by decide +kernel
theorem d_MD_deliverable_21 : decode c_MD_deliverable 21 = .ok (.iconst 0, 1) := by decide +kernel
theorem d_MD_deliverable_22 : decode c_MD_deliverable 22 = .ok (.ireturn, 1) := by decide +kernel
theorem d_MD_deliverable_23 : decode c_MD_deliverable 23 = .ok (.bipush 16, 2) := by decide +kernel
theorem d_MD_deliverable_25 : decode c_MD_deliverable 25 = .ok (.aload_n 0, 1) := by decide +kernel
theorem d_MD_deliverable_26 : decode c_MD_deliverable 26 = .ok (.getfield 7, 3) := by decide +kernel
theorem d_MD_deliverable_29 : decode c_MD_deliverable 29 = .ok (.iload_n 1, 1) := by decide +kernel
theorem d_MD_deliverable_30 : decode c_MD_deliverable 30 = .ok (.iaload, 1) := by decide +kernel
theorem d_MD_deliverable_31 : decode c_MD_deliverable 31 = .ok (.imul, 1) := by decide +kernel
theorem d_MD_deliverable_32 : decode c_MD_deliverable 32 = .ok (.iconst 4, 1) := by decide +kernel
theorem d_MD_deliverable_33 : decode c_MD_deliverable 33 = .ok (.iload_n 2, 1) := by decide +kernel
theorem d_MD_deliverable_34 : decode c_MD_deliverable 34 = .ok (.imul, 1) := by decide +kernel
theorem d_MD_deliverable_35 : decode c_MD_deliverable 35 = .ok (.iadd, 1) := by decide +kernel
theorem d_MD_deliverable_36 : decode c_MD_deliverable 36 = .ok (.iload_n 3, 1) := by decide +kernel
theorem d_MD_deliverable_37 : decode c_MD_deliverable 37 = .ok (.iadd, 1) := by decide +kernel
theorem d_MD_deliverable_38 : decode c_MD_deliverable 38 = .ok (.istore 4, 2) := by decide +kernel
theorem d_MD_deliverable_40 : decode c_MD_deliverable 40 = .ok (.aload_n 0, 1) := by decide +kernel
theorem d_MD_deliverable_41 : decode c_MD_deliverable 41 = .ok (.getfield 53, 3) := by decide +kernel
theorem d_MD_deliverable_44 : decode c_MD_deliverable 44 = .ok (.sipush 256, 3) := by decide +kernel
theorem d_MD_deliverable_47 : decode c_MD_deliverable 47 = .ok (.iload_n 1, 1) := by decide +kernel
theorem d_MD_deliverable_48 : decode c_MD_deliverable 48 = .ok (.imul, 1) := by decide +kernel
theorem d_MD_deliverable_49 : decode c_MD_deliverable 49 = .ok (.iload 4, 2) := by decide +kernel
theorem d_MD_deliverable_51 : decode c_MD_deliverable 51 = .ok (.iadd, 1) := by decide +kernel
theorem d_MD_deliverable_52 : decode c_MD_deliverable 52 = .ok (.baload, 1) := by decide +kernel
theorem d_MD_deliverable_53 : decode c_MD_deliverable 53 = .ok (.ifCond .ne 5, 3) := by decide +kernel
theorem d_MD_deliverable_56 : decode c_MD_deliverable 56 = .ok (.iconst 0, 1) := by decide +kernel
theorem d_MD_deliverable_57 : decode c_MD_deliverable 57 = .ok (.ireturn, 1) := by decide +kernel
theorem d_MD_deliverable_58 : decode c_MD_deliverable 58 = .ok (.iconst 0, 1) := by decide +kernel
theorem d_MD_deliverable_59 : decode c_MD_deliverable 59 = .ok (.istore 5, 2) := by decide +kernel
theorem d_MD_deliverable_61 : decode c_MD_deliverable 61 = .ok (.iload 5, 2) := by decide +kernel
theorem d_MD_deliverable_63 : decode c_MD_deliverable 63 = .ok (.iconst 4, 1) := by decide +kernel
theorem d_MD_deliverable_64 : decode c_MD_deliverable 64 = .ok (.if_icmp .ge 43, 3) := by decide +kernel
theorem d_MD_deliverable_67 : decode c_MD_deliverable 67 = .ok (.iload 5, 2) := by decide +kernel
theorem d_MD_deliverable_69 : decode c_MD_deliverable 69 = .ok (.iload_n 2, 1) := by decide +kernel
theorem d_MD_deliverable_70 : decode c_MD_deliverable 70 = .ok (.if_icmp .eq 31, 3) := by decide +kernel
theorem d_MD_deliverable_73 : decode c_MD_deliverable 73 = .ok (.aload_n 0, 1) := by decide +kernel
theorem d_MD_deliverable_74 : decode c_MD_deliverable 74 = .ok (.getfield 35, 3) := by decide +kernel
theorem d_MD_deliverable_77 : decode c_MD_deliverable 77 = .ok (.iconst 4, 1) := by decide +kernel
theorem d_MD_deliverable_78 : decode c_MD_deliverable 78 = .ok (.iload_n 1, 1) := by decide +kernel
theorem d_MD_deliverable_79 : decode c_MD_deliverable 79 = .ok (.imul, 1) := by decide +kernel
theorem d_MD_deliverable_80 : decode c_MD_deliverable 80 = .ok (.iload 5, 2) := by decide +kernel
theorem d_MD_deliverable_82 : decode c_MD_deliverable 82 = .ok (.iadd, 1) := by decide +kernel
theorem d_MD_deliverable_83 : decode c_MD_deliverable 83 = .ok (.iaload, 1) := by decide +kernel
theorem d_MD_deliverable_84 : decode c_MD_deliverable 84 = .ok (.aload_n 0, 1) := by decide +kernel
theorem d_MD_deliverable_85 : decode c_MD_deliverable 85 = .ok (.getfield 50, 3) := by decide +kernel
theorem d_MD_deliverable_88 : decode c_MD_deliverable 88 = .ok (.iconst 4, 1) := by decide +kernel
theorem d_MD_deliverable_89 : decode c_MD_deliverable 89 = .ok (.iload 4, 2) := by decide +kernel
theorem d_MD_deliverable_91 : decode c_MD_deliverable 91 = .ok (.imul, 1) := by decide +kernel
theorem d_MD_deliverable_92 : decode c_MD_deliverable 92 = .ok (.iload 5, 2) := by decide +kernel
theorem d_MD_deliverable_94 : decode c_MD_deliverable 94 = .ok (.iadd, 1) := by decide +kernel
theorem d_MD_deliverable_95 : decode c_MD_deliverable 95 = .ok (.iaload, 1) := by decide +kernel
theorem d_MD_deliverable_96 : decode c_MD_deliverable 96 = .ok (.if_icmp .ge 5, 3) := by decide +kernel
theorem d_MD_deliverable_99 : decode c_MD_deliverable 99 = .ok (.iconst 0, 1) := by decide +kernel
theorem d_MD_deliverable_100 : decode c_MD_deliverable 100 = .ok (.ireturn, 1) := by decide +kernel
theorem d_MD_deliverable_101 : decode c_MD_deliverable 101 = .ok (.iinc 5 1, 3) := by decide +kernel
theorem d_MD_deliverable_104 : decode c_MD_deliverable 104 = .ok (.goto (-43), 3) := by decide +kernel
theorem d_MD_deliverable_107 : decode c_MD_deliverable 107 = .ok (.iconst 1, 1) := by decide +kernel
theorem d_MD_deliverable_108 : decode c_MD_deliverable 108 = .ok (.ireturn, 1) := by decide +kernel
theorem d_MD_note_0 : decode c_MD_note 0 = .ok (.aload_n 0, 1) := by decide +kernel
theorem d_MD_note_1 : decode c_MD_note 1 = .ok (.getfield 38, 3) := by decide +kernel
theorem d_MD_note_4 : decode c_MD_note 4 = .ok (.iconst 4, 1) := by decide +kernel
theorem d_MD_note_5 : decode c_MD_note 5 = .ok (.iload_n 1, 1) := by decide +kernel
theorem d_MD_note_6 : decode c_MD_note 6 = .ok (.imul, 1) := by decide +kernel
theorem d_MD_note_7 : decode c_MD_note 7 = .ok (.iload_n 2, 1) := by decide +kernel
theorem d_MD_note_8 : decode c_MD_note 8 = .ok (.iastore, 1) := by decide +kernel
theorem d_MD_note_9 : decode c_MD_note 9 = .ok (.aload_n 0, 1) := by decide +kernel
theorem d_MD_note_10 : decode c_MD_note 10 = .ok (.getfield 38, 3) := by decide +kernel
theorem d_MD_note_13 : decode c_MD_note 13 = .ok (.iconst 4, 1) := by decide +kernel
theorem d_MD_note_14 : decode c_MD_note 14 = .ok (.iload_n 1, 1) := by decide +kernel
theorem d_MD_note_15 : decode c_MD_note 15 = .ok (.imul, 1) := by decide +kernel
theorem d_MD_note_16 : decode c_MD_note 16 = .ok (.iconst 1, 1) := by decide +kernel
theorem d_MD_note_17 : decode c_MD_note 17 = .ok (.iadd, 1) := by decide +kernel
theorem d_MD_note_18 : decode c_MD_note 18 = .ok (.iload_n 3, 1) := by decide +kernel
theorem d_MD_note_19 : decode c_MD_note 19 = .ok (.iastore, 1) := by decide +kernel
theorem d_MD_note_20 : decode c_MD_note 20 = .ok (.aload_n 0, 1) := by decide +kernel
theorem d_MD_note_21 : decode c_MD_note 21 = .ok (.getfield 38, 3) := by decide +kernel
theorem d_MD_note_24 : decode c_MD_note 24 = .ok (.iconst 4, 1) := by decide +kernel
theorem d_MD_note_25 : decode c_MD_note 25 = .ok (.iload_n 1, 1) := by decide +kernel
theorem d_MD_note_26 : decode c_MD_note 26 = .ok (.imul, 1) := by decide +kernel
theorem d_MD_note_27 : decode c_MD_note 27 = .ok (.iconst 2, 1) := by decide +kernel
theorem d_MD_note_28 : decode c_MD_note 28 = .ok (.iadd, 1) := by decide +kernel
theorem d_MD_note_29 : decode c_MD_note 29 = .ok (.iload 4, 2) := by decide +kernel
theorem d_MD_note_31 : decode c_MD_note 31 = .ok (.iastore, 1) := by decide +kernel
theorem d_MD_note_32 : decode c_MD_note 32 = .ok (.aload_n 0, 1) := by decide +kernel
theorem d_MD_note_33 : decode c_MD_note 33 = .ok (.getfield 38, 3) := by decide +kernel
theorem d_MD_note_36 : decode c_MD_note 36 = .ok (.iconst 4, 1) := by decide +kernel
theorem d_MD_note_37 : decode c_MD_note 37 = .ok (.iload_n 1, 1) := by decide +kernel
theorem d_MD_note_38 : decode c_MD_note 38 = .ok (.imul, 1) := by decide +kernel
theorem d_MD_note_39 : decode c_MD_note 39 = .ok (.iconst 3, 1) := by decide +kernel
theorem d_MD_note_40 : decode c_MD_note 40 = .ok (.iadd, 1) := by decide +kernel
theorem d_MD_note_41 : decode c_MD_note 41 = .ok (.iload 5, 2) := by decide +kernel
theorem d_MD_note_43 : decode c_MD_note 43 = .ok (.iastore, 1) := by decide +kernel
theorem d_MD_note_44 : decode c_MD_note 44 = .ok (.return_, 1) := by decide +kernel
theorem d_MD_step_0 : decode c_MD_step 0 = .ok (.iload_n 1, 1) := by decide +kernel
theorem d_MD_step_1 : decode c_MD_step 1 = .ok (.iconst 0, 1) := by decide +kernel
theorem d_MD_step_2 : decode c_MD_step 2 = .ok (.iconst 3, 1) := by decide +kernel
theorem d_MD_step_3 : decode c_MD_step 3 = .ok (.invokestatic 74, 3) := by decide +kernel
theorem d_MD_step_6 : decode c_MD_step 6 = .ok (.ifCond .ne 5, 3) := by decide +kernel
theorem d_MD_step_9 : decode c_MD_step 9 = .ok (.iconst (-1), 1) := by decide +kernel
theorem d_MD_step_10 : decode c_MD_step 10 = .ok (.ireturn, 1) := by decide +kernel
theorem d_MD_step_11 : decode c_MD_step 11 = .ok (.aload_n 0, 1) := by decide +kernel
theorem d_MD_step_12 : decode c_MD_step 12 = .ok (.iload_n 1, 1) := by decide +kernel
theorem d_MD_step_13 : decode c_MD_step 13 = .ok (.invokevirtual 93, 3) := by decide +kernel
theorem d_MD_step_16 : decode c_MD_step 16 = .ok (.istore_n 2, 1) := by decide +kernel
theorem d_MD_step_17 : decode c_MD_step 17 = .ok (.iload_n 2, 1) := by decide +kernel
theorem d_MD_step_18 : decode c_MD_step 18 = .ok (.ifCond .ne 5, 3) := by decide +kernel
theorem d_MD_step_21 : decode c_MD_step 21 = .ok (.iconst 0, 1) := by decide +kernel
theorem d_MD_step_22 : decode c_MD_step 22 = .ok (.ireturn, 1) := by decide +kernel
theorem d_MD_step_23 : decode c_MD_step 23 = .ok (.iconst 0, 1) := by decide +kernel
theorem d_MD_step_24 : decode c_MD_step 24 = .ok (.istore_n 3, 1) := by decide +kernel
theorem d_MD_step_25 : decode c_MD_step 25 = .ok (.iload_n 3, 1) := by decide +kernel
theorem d_MD_step_26 : decode c_MD_step 26 = .ok (.iconst 4, 1) := by decide +kernel
theorem d_MD_step_27 : decode c_MD_step 27 = .ok (.if_icmp .ge 87, 3) := by decide +kernel
theorem d_MD_step_30 : decode c_MD_step 30 = .ok (.aload_n 0, 1) := by decide +kernel
theorem d_MD_step_31 : decode c_MD_step 31 = .ok (.iload_n 1, 1) := by decide +kernel
theorem d_MD_step_32 : decode c_MD_step 32 = .ok (.iload_n 3, 1) := by decide +kernel
theorem d_MD_step_33 : decode c_MD_step 33 = .ok (.invokevirtual 96, 3) := by decide +kernel
theorem d_MD_step_36 : decode c_MD_step 36 = .ok (.ifCond .ne 6, 3) := by decide +kernel
theorem d_MD_step_39 : decode c_MD_step 39 = .ok (.goto 69, 3) := by decide +kernel
theorem d_MD_step_42 : decode c_MD_step 42 = .ok (.bipush 16, 2) := by decide +kernel
theorem d_MD_step_44 : decode c_MD_step 44 = .ok (.aload_n 0, 1) := by decide +kernel
theorem d_MD_step_45 : decode c_MD_step 45 = .ok (.getfield 7, 3) := by decide +kernel
theorem d_MD_step_48 : decode c_MD_step 48 = .ok (.iload_n 1, 1) := by decide +kernel
theorem d_MD_step_49 : decode c_MD_step 49 = .ok (.iaload, 1) := by decide +kernel
theorem d_MD_step_50 : decode c_MD_step 50 = .ok (.imul, 1) := by decide +kernel
theorem d_MD_step_51 : decode c_MD_step 51 = .ok (.iconst 4, 1) := by decide +kernel
theorem d_MD_step_52 : decode c_MD_step 52 = .ok (.iload_n 3, 1) := by decide +kernel
theorem d_MD_step_53 : decode c_MD_step 53 = .ok (.imul, 1) := by decide +kernel
theorem d_MD_step_54 : decode c_MD_step 54 = .ok (.iadd, 1) := by decide +kernel
theorem d_MD_step_55 : decode c_MD_step 55 = .ok (.aload_n 0, 1) := by decide +kernel
theorem d_MD_step_56 : decode c_MD_step 56 = .ok (.getfield 35, 3) := by decide +kernel
theorem d_MD_step_59 : decode c_MD_step 59 = .ok (.iconst 4, 1) := by decide +kernel
theorem d_MD_step_60 : decode c_MD_step 60 = .ok (.iload_n 1, 1) := by decide +kernel
theorem d_MD_step_61 : decode c_MD_step 61 = .ok (.imul, 1) := by decide +kernel
theorem d_MD_step_62 : decode c_MD_step 62 = .ok (.iload_n 3, 1) := by decide +kernel
theorem d_MD_step_63 : decode c_MD_step 63 = .ok (.iadd, 1) := by decide +kernel
theorem d_MD_step_64 : decode c_MD_step 64 = .ok (.iaload, 1) := by decide +kernel
theorem d_MD_step_65 : decode c_MD_step 65 = .ok (.iadd, 1) := by decide +kernel
theorem d_MD_step_66 : decode c_MD_step 66 = .ok (.istore 4, 2) := by decide +kernel
theorem d_MD_step_68 : decode c_MD_step 68 = .ok (.aload_n 0, 1) := by decide +kernel
theorem d_MD_step_69 : decode c_MD_step 69 = .ok (.getfield 35, 3) := by decide +kernel
theorem d_MD_step_72 : decode c_MD_step 72 = .ok (.iconst 4, 1) := by decide +kernel
theorem d_MD_step_73 : decode c_MD_step 73 = .ok (.iload_n 1, 1) := by decide +kernel
theorem d_MD_step_74 : decode c_MD_step 74 = .ok (.imul, 1) := by decide +kernel
theorem d_MD_step_75 : decode c_MD_step 75 = .ok (.iload_n 3, 1) := by decide +kernel
theorem d_MD_step_76 : decode c_MD_step 76 = .ok (.iadd, 1) := by decide +kernel
theorem d_MD_step_77 : decode c_MD_step 77 = .ok (.dup2, 1) := by decide +kernel
theorem d_MD_step_78 : decode c_MD_step 78 = .ok (.iaload, 1) := by decide +kernel
theorem d_MD_step_79 : decode c_MD_step 79 = .ok (.iconst 1, 1) := by decide +kernel
theorem d_MD_step_80 : decode c_MD_step 80 = .ok (.iadd, 1) := by decide +kernel
theorem d_MD_step_81 : decode c_MD_step 81 = .ok (.iastore, 1) := by decide +kernel
theorem d_MD_step_82 : decode c_MD_step 82 = .ok (.aload_n 0, 1) := by decide +kernel
theorem d_MD_step_83 : decode c_MD_step 83 = .ok (.iload_n 1, 1) := by decide +kernel
theorem d_MD_step_84 : decode c_MD_step 84 = .ok (.iconst 1, 1) := by decide +kernel
theorem d_MD_step_85 : decode c_MD_step 85 = .ok (.iload_n 3, 1) := by decide +kernel
theorem d_MD_step_86 : decode c_MD_step 86 = .ok (.aload_n 0, 1) := by decide +kernel
theorem d_MD_step_87 : decode c_MD_step 87 = .ok (.getfield 35, 3) := by decide +kernel
theorem d_MD_step_90 : decode c_MD_step 90 = .ok (.iconst 4, 1) := by decide +kernel
theorem d_MD_step_91 : decode c_MD_step 91 = .ok (.iload_n 1, 1) := by decide +kernel
theorem d_MD_step_92 : decode c_MD_step 92 = .ok (.imul, 1) := by decide +kernel
theorem d_MD_step_93 : decode c_MD_step 93 = .ok (.iload_n 3, 1) := by decide +kernel
theorem d_MD_step_94 : decode c_MD_step 94 = .ok (.iadd, 1) := by decide +kernel
theorem d_MD_step_95 : decode c_MD_step 95 = .ok (.iaload, 1) := by decide +kernel
theorem d_MD_step_96 : decode c_MD_step 96 = .ok (.aload_n 0, 1) := by decide +kernel
theorem d_MD_step_97 : decode c_MD_step 97 = .ok (.getfield 47, 3) := by decide +kernel
theorem d_MD_step_100 : decode c_MD_step 100 = .ok (.iload 4, 2) := by decide +kernel
theorem d_MD_step_102 : decode c_MD_step 102 = .ok (.iaload, 1) := by decide +kernel
theorem d_MD_step_103 : decode c_MD_step 103 = .ok (.invokevirtual 100, 3) := by decide +kernel
theorem d_MD_step_106 : decode c_MD_step 106 = .ok (.iconst 1, 1) := by decide +kernel
theorem d_MD_step_107 : decode c_MD_step 107 = .ok (.ireturn, 1) := by decide +kernel
theorem d_MD_step_108 : decode c_MD_step 108 = .ok (.iinc 3 1, 3) := by decide +kernel
theorem d_MD_step_111 : decode c_MD_step 111 = .ok (.goto (-86), 3) := by decide +kernel
theorem d_MD_step_114 : decode c_MD_step 114 = .ok (.iload_n 2, 1) := by decide +kernel
theorem d_MD_step_115 : decode c_MD_step 115 = .ok (.iconst 1, 1) := by decide +kernel
theorem d_MD_step_116 : decode c_MD_step 116 = .ok (.if_icmp .ne 5, 3) := by decide +kernel
theorem d_MD_step_119 : decode c_MD_step 119 = .ok (.iconst 0, 1) := by decide +kernel
theorem d_MD_step_120 : decode c_MD_step 120 = .ok (.ireturn, 1) := by decide +kernel
theorem d_MD_step_121 : decode c_MD_step 121 = .ok (.iconst 0, 1) := by decide +kernel
theorem d_MD_step_122 : decode c_MD_step 122 = .ok (.istore_n 3, 1) := by decide +kernel
theorem d_MD_step_123 : decode c_MD_step 123 = .ok (.iload_n 3, 1) := by decide +kernel
theorem d_MD_step_124 : decode c_MD_step 124 = .ok (.iconst 4, 1) := by decide +kernel
theorem d_MD_step_125 : decode c_MD_step 125 = .ok (.if_icmp .ge 30, 3) := by decide +kernel
theorem d_MD_step_128 : decode c_MD_step 128 = .ok (.aload_n 0, 1) := by decide +kernel
theorem d_MD_step_129 : decode c_MD_step 129 = .ok (.getfield 35, 3) := by decide +kernel
theorem d_MD_step_132 : decode c_MD_step 132 = .ok (.iconst 4, 1) := by decide +kernel
theorem d_MD_step_133 : decode c_MD_step 133 = .ok (.iload_n 1, 1) := by decide +kernel
theorem d_MD_step_134 : decode c_MD_step 134 = .ok (.imul, 1) := by decide +kernel
theorem d_MD_step_135 : decode c_MD_step 135 = .ok (.iload_n 3, 1) := by decide +kernel
theorem d_MD_step_136 : decode c_MD_step 136 = .ok (.iadd, 1) := by decide +kernel
theorem d_MD_step_137 : decode c_MD_step 137 = .ok (.iaload, 1) := by decide +kernel
theorem d_MD_step_138 : decode c_MD_step 138 = .ok (.aload_n 0, 1) := by decide +kernel
theorem d_MD_step_139 : decode c_MD_step 139 = .ok (.getfield 71, 3) := by decide +kernel
theorem d_MD_step_142 : decode c_MD_step 142 = .ok (.iload_n 3, 1) := by decide +kernel
theorem d_MD_step_143 : decode c_MD_step 143 = .ok (.iaload, 1) := by decide +kernel
theorem d_MD_step_144 : decode c_MD_step 144 = .ok (.if_icmp .eq 5, 3) := by decide +kernel
theorem d_MD_step_147 : decode c_MD_step 147 = .ok (.iconst 0, 1) := by decide +kernel
theorem d_MD_step_148 : decode c_MD_step 148 = .ok (.ireturn, 1) := by decide +kernel
theorem d_MD_step_149 : decode c_MD_step 149 = .ok (.iinc 3 1, 3) := by decide +kernel
theorem d_MD_step_152 : decode c_MD_step 152 = .ok (.goto (-29), 3) := by decide +kernel
theorem d_MD_step_155 : decode c_MD_step 155 = .ok (.aload_n 0, 1) := by decide +kernel
theorem d_MD_step_156 : decode c_MD_step 156 = .ok (.getfield 7, 3) := by decide +kernel
theorem d_MD_step_159 : decode c_MD_step 159 = .ok (.iload_n 1, 1) := by decide +kernel
theorem d_MD_step_160 : decode c_MD_step 160 = .ok (.aload_n 0, 1) := by decide +kernel
theorem d_MD_step_161 : decode c_MD_step 161 = .ok (.getfield 26, 3) := by decide +kernel
theorem d_MD_step_164 : decode c_MD_step 164 = .ok (.iload_n 1, 1) := by decide +kernel
theorem d_MD_step_165 : decode c_MD_step 165 = .ok (.iaload, 1) := by decide +kernel
theorem d_MD_step_166 : decode c_MD_step 166 = .ok (.iastore, 1) := by decide +kernel
theorem d_MD_step_167 : decode c_MD_step 167 = .ok (.aload_n 0, 1) := by decide +kernel
theorem d_MD_step_168 : decode c_MD_step 168 = .ok (.iload_n 1, 1) := by decide +kernel
theorem d_MD_step_169 : decode c_MD_step 169 = .ok (.iconst 2, 1) := by decide +kernel
theorem d_MD_step_170 : decode c_MD_step 170 = .ok (.aload_n 0, 1) := by decide +kernel
theorem d_MD_step_171 : decode c_MD_step 171 = .ok (.getfield 7, 3) := by decide +kernel
theorem d_MD_step_174 : decode c_MD_step 174 = .ok (.iload_n 1, 1) := by decide +kernel
theorem d_MD_step_175 : decode c_MD_step 175 = .ok (.iaload, 1) := by decide +kernel
theorem d_MD_step_176 : decode c_MD_step 176 = .ok (.aload_n 0, 1) := by decide +kernel
theorem d_MD_step_177 : decode c_MD_step 177 = .ok (.getfield 41, 3) := by decide +kernel
theorem d_MD_step_180 : decode c_MD_step 180 = .ok (.aload_n 0, 1) := by decide +kernel
theorem d_MD_step_181 : decode c_MD_step 181 = .ok (.getfield 7, 3) := by decide +kernel
theorem d_MD_step_184 : decode c_MD_step 184 = .ok (.iload_n 1, 1) := by decide +kernel
theorem d_MD_step_185 : decode c_MD_step 185 = .ok (.iaload, 1) := by decide +kernel
theorem d_MD_step_186 : decode c_MD_step 186 = .ok (.iaload, 1) := by decide +kernel
theorem d_MD_step_187 : decode c_MD_step 187 = .ok (.aload_n 0, 1) := by decide +kernel
theorem d_MD_step_188 : decode c_MD_step 188 = .ok (.getfield 90, 3) := by decide +kernel
theorem d_MD_step_191 : decode c_MD_step 191 = .ok (.invokevirtual 100, 3) := by decide +kernel
theorem d_MD_step_194 : decode c_MD_step 194 = .ok (.aload_n 0, 1) := by decide +kernel
theorem d_MD_step_195 : decode c_MD_step 195 = .ok (.getfield 26, 3) := by decide +kernel
theorem d_MD_step_198 : decode c_MD_step 198 = .ok (.iload_n 1, 1) := by decide +kernel
theorem d_MD_step_199 : decode c_MD_step 199 = .ok (.iconst 0, 1) := by decide +kernel
theorem d_MD_step_200 : decode c_MD_step 200 = .ok (.iastore, 1) := by decide +kernel
theorem d_MD_step_201 : decode c_MD_step 201 = .ok (.aload_n 0, 1) := by decide +kernel
theorem d_MD_step_202 : decode c_MD_step 202 = .ok (.getfield 23, 3) := by decide +kernel
theorem d_MD_step_205 : decode c_MD_step 205 = .ok (.iload_n 1, 1) := by decide +kernel
theorem d_MD_step_206 : decode c_MD_step 206 = .ok (.iconst 0, 1) := by decide +kernel
theorem d_MD_step_207 : decode c_MD_step 207 = .ok (.bastore, 1) := by decide +kernel
theorem d_MD_step_208 : decode c_MD_step 208 = .ok (.aload_n 0, 1) := by decide +kernel
theorem d_MD_step_209 : decode c_MD_step 209 = .ok (.getfield 32, 3) := by decide +kernel
theorem d_MD_step_212 : decode c_MD_step 212 = .ok (.iload_n 1, 1) := by decide +kernel
theorem d_MD_step_213 : decode c_MD_step 213 = .ok (.iconst 0, 1) := by decide +kernel
theorem d_MD_step_214 : decode c_MD_step 214 = .ok (.iastore, 1) := by decide +kernel
theorem d_MD_step_215 : decode c_MD_step 215 = .ok (.iconst 0, 1) := by decide +kernel
theorem d_MD_step_216 : decode c_MD_step 216 = .ok (.istore_n 3, 1) := by decide +kernel
theorem d_MD_step_217 : decode c_MD_step 217 = .ok (.iload_n 3, 1) := by decide +kernel
theorem d_MD_step_218 : decode c_MD_step 218 = .ok (.iconst 4, 1) := by decide +kernel
theorem d_MD_step_219 : decode c_MD_step 219 = .ok (.if_icmp .ge 20, 3) := by decide +kernel
theorem d_MD_step_222 : decode c_MD_step 222 = .ok (.aload_n 0, 1) := by decide +kernel
theorem d_MD_step_223 : decode c_MD_step 223 = .ok (.getfield 35, 3) := by decide +kernel
theorem d_MD_step_226 : decode c_MD_step 226 = .ok (.iconst 4, 1) := by decide +kernel
theorem d_MD_step_227 : decode c_MD_step 227 = .ok (.iload_n 1, 1) := by decide +kernel
theorem d_MD_step_228 : decode c_MD_step 228 = .ok (.imul, 1) := by decide +kernel
theorem d_MD_step_229 : decode c_MD_step 229 = .ok (.iload_n 3, 1) := by decide +kernel
theorem d_MD_step_230 : decode c_MD_step 230 = .ok (.iadd, 1) := by decide +kernel
theorem d_MD_step_231 : decode c_MD_step 231 = .ok (.iconst 0, 1) := by decide +kernel
theorem d_MD_step_232 : decode c_MD_step 232 = .ok (.iastore, 1) := by decide +kernel
theorem d_MD_step_233 : decode c_MD_step 233 = .ok (.iinc 3 1, 3) := by decide +kernel
theorem d_MD_step_236 : decode c_MD_step 236 = .ok (.goto (-19), 3) := by decide +kernel
theorem d_MD_step_239 : decode c_MD_step 239 = .ok (.iconst 2, 1) := by decide +kernel
theorem d_MD_step_240 : decode c_MD_step 240 = .ok (.ireturn, 1) := by decide +kernel
theorem d_MD_event_0 : decode c_MD_event 0 = .ok (.iload_n 1, 1) := by decide +kernel
theorem d_MD_event_1 : decode c_MD_event 1 = .ok (.iconst 0, 1) := by decide +kernel
theorem d_MD_event_2 : decode c_MD_event 2 = .ok (.iconst 3, 1) := by decide +kernel
theorem d_MD_event_3 : decode c_MD_event 3 = .ok (.invokestatic 74, 3) := by decide +kernel
theorem d_MD_event_6 : decode c_MD_event 6 = .ok (.ifCond .eq 25, 3) := by decide +kernel
theorem d_MD_event_9 : decode c_MD_event 9 = .ok (.iload_n 2, 1) := by decide +kernel
theorem d_MD_event_10 : decode c_MD_event 10 = .ok (.iconst 0, 1) := by decide +kernel
theorem d_MD_event_11 : decode c_MD_event 11 = .ok (.iconst 3, 1) := by decide +kernel
theorem d_MD_event_12 : decode c_MD_event 12 = .ok (.invokestatic 74, 3) := by decide +kernel
theorem d_MD_event_15 : decode c_MD_event 15 = .ok (.ifCond .eq 16, 3) := by decide +kernel
theorem d_MD_event_18 : decode c_MD_event 18 = .ok (.aload_n 0, 1) := by decide +kernel
theorem d_MD_event_19 : decode c_MD_event 19 = .ok (.getfield 38, 3) := by decide +kernel
theorem d_MD_event_22 : decode c_MD_event 22 = .ok (.iconst 4, 1) := by decide +kernel
theorem d_MD_event_23 : decode c_MD_event 23 = .ok (.iload_n 1, 1) := by decide +kernel
theorem d_MD_event_24 : decode c_MD_event 24 = .ok (.imul, 1) := by decide +kernel
theorem d_MD_event_25 : decode c_MD_event 25 = .ok (.iload_n 2, 1) := by decide +kernel
theorem d_MD_event_26 : decode c_MD_event 26 = .ok (.iadd, 1) := by decide +kernel
theorem d_MD_event_27 : decode c_MD_event 27 = .ok (.iaload, 1) := by decide +kernel
theorem d_MD_event_28 : decode c_MD_event 28 = .ok (.goto 4, 3) := by decide +kernel
theorem d_MD_event_31 : decode c_MD_event 31 = .ok (.iconst 0, 1) := by decide +kernel
theorem d_MD_event_32 : decode c_MD_event 32 = .ok (.ireturn, 1) := by decide +kernel
theorem d_MD_view_0 : decode c_MD_view 0 = .ok (.iload_n 1, 1) := by decide +kernel
theorem d_MD_view_1 : decode c_MD_view 1 = .ok (.iconst 0, 1) := by decide +kernel
theorem d_MD_view_2 : decode c_MD_view 2 = .ok (.iconst 3, 1) := by decide +kernel
theorem d_MD_view_3 : decode c_MD_view 3 = .ok (.invokestatic 74, 3) := by decide +kernel
theorem d_MD_view_6 : decode c_MD_view 6 = .ok (.ifCond .eq 12, 3) := by decide +kernel
theorem d_MD_view_9 : decode c_MD_view 9 = .ok (.aload_n 0, 1) := by decide +kernel
theorem d_MD_view_10 : decode c_MD_view 10 = .ok (.getfield 7, 3) := by decide +kernel
theorem d_MD_view_13 : decode c_MD_view 13 = .ok (.iload_n 1, 1) := by decide +kernel
theorem d_MD_view_14 : decode c_MD_view 14 = .ok (.iaload, 1) := by decide +kernel
theorem d_MD_view_15 : decode c_MD_view 15 = .ok (.goto 4, 3) := by decide +kernel
theorem d_MD_view_18 : decode c_MD_view 18 = .ok (.iconst (-1), 1) := by decide +kernel
theorem d_MD_view_19 : decode c_MD_view 19 = .ok (.ireturn, 1) := by decide +kernel
theorem d_MD_members_0 : decode c_MD_members 0 = .ok (.iload_n 1, 1) := by decide +kernel
theorem d_MD_members_1 : decode c_MD_members 1 = .ok (.iconst 1, 1) := by decide +kernel
theorem d_MD_members_2 : decode c_MD_members 2 = .ok (.aload_n 0, 1) := by decide +kernel
theorem d_MD_members_3 : decode c_MD_members 3 = .ok (.getfield 86, 3) := by decide +kernel
theorem d_MD_members_6 : decode c_MD_members 6 = .ok (.invokestatic 74, 3) := by decide +kernel
theorem d_MD_members_9 : decode c_MD_members 9 = .ok (.ifCond .eq 12, 3) := by decide +kernel
theorem d_MD_members_12 : decode c_MD_members 12 = .ok (.aload_n 0, 1) := by decide +kernel
theorem d_MD_members_13 : decode c_MD_members 13 = .ok (.getfield 41, 3) := by decide +kernel
theorem d_MD_members_16 : decode c_MD_members 16 = .ok (.iload_n 1, 1) := by decide +kernel
theorem d_MD_members_17 : decode c_MD_members 17 = .ok (.iaload, 1) := by decide +kernel
theorem d_MD_members_18 : decode c_MD_members 18 = .ok (.goto 4, 3) := by decide +kernel
theorem d_MD_members_21 : decode c_MD_members 21 = .ok (.iconst 0, 1) := by decide +kernel
theorem d_MD_members_22 : decode c_MD_members 22 = .ok (.ireturn, 1) := by decide +kernel
theorem d_MD_start_0 : decode c_MD_start 0 = .ok (.iload_n 1, 1) := by decide +kernel
theorem d_MD_start_1 : decode c_MD_start 1 = .ok (.iconst 1, 1) := by decide +kernel
theorem d_MD_start_2 : decode c_MD_start 2 = .ok (.aload_n 0, 1) := by decide +kernel
theorem d_MD_start_3 : decode c_MD_start 3 = .ok (.getfield 86, 3) := by decide +kernel
theorem d_MD_start_6 : decode c_MD_start 6 = .ok (.invokestatic 74, 3) := by decide +kernel
theorem d_MD_start_9 : decode c_MD_start 9 = .ok (.ifCond .eq 25, 3) := by decide +kernel
theorem d_MD_start_12 : decode c_MD_start 12 = .ok (.iload_n 2, 1) := by decide +kernel
theorem d_MD_start_13 : decode c_MD_start 13 = .ok (.iconst 0, 1) := by decide +kernel
theorem d_MD_start_14 : decode c_MD_start 14 = .ok (.iconst 3, 1) := by decide +kernel
theorem d_MD_start_15 : decode c_MD_start 15 = .ok (.invokestatic 74, 3) := by decide +kernel
theorem d_MD_start_18 : decode c_MD_start 18 = .ok (.ifCond .eq 16, 3) := by decide +kernel
theorem d_MD_start_21 : decode c_MD_start 21 = .ok (.aload_n 0, 1) := by decide +kernel
theorem d_MD_start_22 : decode c_MD_start 22 = .ok (.getfield 44, 3) := by decide +kernel
theorem d_MD_start_25 : decode c_MD_start 25 = .ok (.iconst 4, 1) := by decide +kernel
theorem d_MD_start_26 : decode c_MD_start 26 = .ok (.iload_n 1, 1) := by decide +kernel
theorem d_MD_start_27 : decode c_MD_start 27 = .ok (.imul, 1) := by decide +kernel
theorem d_MD_start_28 : decode c_MD_start 28 = .ok (.iload_n 2, 1) := by decide +kernel
theorem d_MD_start_29 : decode c_MD_start 29 = .ok (.iadd, 1) := by decide +kernel
theorem d_MD_start_30 : decode c_MD_start 30 = .ok (.iaload, 1) := by decide +kernel
theorem d_MD_start_31 : decode c_MD_start 31 = .ok (.goto 4, 3) := by decide +kernel
theorem d_MD_start_34 : decode c_MD_start 34 = .ok (.iconst 0, 1) := by decide +kernel
theorem d_MD_start_35 : decode c_MD_start 35 = .ok (.ireturn, 1) := by decide +kernel
theorem d_MD_blocked_0 : decode c_MD_blocked 0 = .ok (.iload_n 1, 1) := by decide +kernel
theorem d_MD_blocked_1 : decode c_MD_blocked 1 = .ok (.iconst 0, 1) := by decide +kernel
theorem d_MD_blocked_2 : decode c_MD_blocked 2 = .ok (.iconst 3, 1) := by decide +kernel
theorem d_MD_blocked_3 : decode c_MD_blocked 3 = .ok (.invokestatic 74, 3) := by decide +kernel
theorem d_MD_blocked_6 : decode c_MD_blocked 6 = .ok (.ifCond .eq 16, 3) := by decide +kernel
theorem d_MD_blocked_9 : decode c_MD_blocked 9 = .ok (.aload_n 0, 1) := by decide +kernel
theorem d_MD_blocked_10 : decode c_MD_blocked 10 = .ok (.getfield 23, 3) := by decide +kernel
theorem d_MD_blocked_13 : decode c_MD_blocked 13 = .ok (.iload_n 1, 1) := by decide +kernel
theorem d_MD_blocked_14 : decode c_MD_blocked 14 = .ok (.baload, 1) := by decide +kernel
theorem d_MD_blocked_15 : decode c_MD_blocked 15 = .ok (.ifCond .eq 7, 3) := by decide +kernel
theorem d_MD_blocked_18 : decode c_MD_blocked 18 = .ok (.iconst 1, 1) := by decide +kernel
theorem d_MD_blocked_19 : decode c_MD_blocked 19 = .ok (.goto 4, 3) := by decide +kernel
theorem d_MD_blocked_22 : decode c_MD_blocked 22 = .ok (.iconst 0, 1) := by decide +kernel
theorem d_MD_blocked_23 : decode c_MD_blocked 23 = .ok (.ireturn, 1) := by decide +kernel
theorem d_MD_pending_0 : decode c_MD_pending 0 = .ok (.iload_n 1, 1) := by decide +kernel
theorem d_MD_pending_1 : decode c_MD_pending 1 = .ok (.iconst 0, 1) := by decide +kernel
theorem d_MD_pending_2 : decode c_MD_pending 2 = .ok (.iconst 3, 1) := by decide +kernel
theorem d_MD_pending_3 : decode c_MD_pending 3 = .ok (.invokestatic 74, 3) := by decide +kernel
theorem d_MD_pending_6 : decode c_MD_pending 6 = .ok (.ifCond .eq 12, 3) := by decide +kernel
theorem d_MD_pending_9 : decode c_MD_pending 9 = .ok (.aload_n 0, 1) := by decide +kernel
theorem d_MD_pending_10 : decode c_MD_pending 10 = .ok (.getfield 26, 3) := by decide +kernel
theorem d_MD_pending_13 : decode c_MD_pending 13 = .ok (.iload_n 1, 1) := by decide +kernel
theorem d_MD_pending_14 : decode c_MD_pending 14 = .ok (.iaload, 1) := by decide +kernel
theorem d_MD_pending_15 : decode c_MD_pending 15 = .ok (.goto 4, 3) := by decide +kernel
theorem d_MD_pending_18 : decode c_MD_pending 18 = .ok (.iconst (-1), 1) := by decide +kernel
theorem d_MD_pending_19 : decode c_MD_pending 19 = .ok (.ireturn, 1) := by decide +kernel
theorem d_MD_changes_0 : decode c_MD_changes 0 = .ok (.iload_n 1, 1) := by decide +kernel
theorem d_MD_changes_1 : decode c_MD_changes 1 = .ok (.iconst 0, 1) := by decide +kernel
theorem d_MD_changes_2 : decode c_MD_changes 2 = .ok (.iconst 3, 1) := by decide +kernel
theorem d_MD_changes_3 : decode c_MD_changes 3 = .ok (.invokestatic 74, 3) := by decide +kernel
theorem d_MD_changes_6 : decode c_MD_changes 6 = .ok (.ifCond .eq 12, 3) := by decide +kernel
theorem d_MD_changes_9 : decode c_MD_changes 9 = .ok (.aload_n 0, 1) := by decide +kernel
theorem d_MD_changes_10 : decode c_MD_changes 10 = .ok (.getfield 13, 3) := by decide +kernel
theorem d_MD_changes_13 : decode c_MD_changes 13 = .ok (.iload_n 1, 1) := by decide +kernel
theorem d_MD_changes_14 : decode c_MD_changes 14 = .ok (.iaload, 1) := by decide +kernel
theorem d_MD_changes_15 : decode c_MD_changes 15 = .ok (.goto 4, 3) := by decide +kernel
theorem d_MD_changes_18 : decode c_MD_changes 18 = .ok (.iconst (-1), 1) := by decide +kernel
theorem d_MD_changes_19 : decode c_MD_changes 19 = .ok (.ireturn, 1) := by decide +kernel
theorem d_MD_sent_0 : decode c_MD_sent 0 = .ok (.iload_n 1, 1) := by decide +kernel
theorem d_MD_sent_1 : decode c_MD_sent 1 = .ok (.iconst 0, 1) := by decide +kernel
theorem d_MD_sent_2 : decode c_MD_sent 2 = .ok (.iconst 3, 1) := by decide +kernel
theorem d_MD_sent_3 : decode c_MD_sent 3 = .ok (.invokestatic 74, 3) := by decide +kernel
theorem d_MD_sent_6 : decode c_MD_sent 6 = .ok (.ifCond .eq 12, 3) := by decide +kernel
theorem d_MD_sent_9 : decode c_MD_sent 9 = .ok (.aload_n 0, 1) := by decide +kernel
theorem d_MD_sent_10 : decode c_MD_sent 10 = .ok (.getfield 32, 3) := by decide +kernel
theorem d_MD_sent_13 : decode c_MD_sent 13 = .ok (.iload_n 1, 1) := by decide +kernel
theorem d_MD_sent_14 : decode c_MD_sent 14 = .ok (.iaload, 1) := by decide +kernel
theorem d_MD_sent_15 : decode c_MD_sent 15 = .ok (.goto 4, 3) := by decide +kernel
theorem d_MD_sent_18 : decode c_MD_sent 18 = .ok (.iconst (-1), 1) := by decide +kernel
theorem d_MD_sent_19 : decode c_MD_sent 19 = .ok (.ireturn, 1) := by decide +kernel
theorem d_MD_delivered_0 : decode c_MD_delivered 0 = .ok (.iload_n 1, 1) := by decide +kernel
theorem d_MD_delivered_1 : decode c_MD_delivered 1 = .ok (.iconst 0, 1) := by decide +kernel
theorem d_MD_delivered_2 : decode c_MD_delivered 2 = .ok (.iconst 3, 1) := by decide +kernel
theorem d_MD_delivered_3 : decode c_MD_delivered 3 = .ok (.invokestatic 74, 3) := by decide +kernel
theorem d_MD_delivered_6 : decode c_MD_delivered 6 = .ok (.ifCond .eq 25, 3) := by decide +kernel
theorem d_MD_delivered_9 : decode c_MD_delivered 9 = .ok (.iload_n 2, 1) := by decide +kernel
theorem d_MD_delivered_10 : decode c_MD_delivered 10 = .ok (.iconst 0, 1) := by decide +kernel
theorem d_MD_delivered_11 : decode c_MD_delivered 11 = .ok (.iconst 3, 1) := by decide +kernel
theorem d_MD_delivered_12 : decode c_MD_delivered 12 = .ok (.invokestatic 74, 3) := by decide +kernel
theorem d_MD_delivered_15 : decode c_MD_delivered 15 = .ok (.ifCond .eq 16, 3) := by decide +kernel
theorem d_MD_delivered_18 : decode c_MD_delivered 18 = .ok (.aload_n 0, 1) := by decide +kernel
theorem d_MD_delivered_19 : decode c_MD_delivered 19 = .ok (.getfield 35, 3) := by decide +kernel
theorem d_MD_delivered_22 : decode c_MD_delivered 22 = .ok (.iconst 4, 1) := by decide +kernel
theorem d_MD_delivered_23 : decode c_MD_delivered 23 = .ok (.iload_n 1, 1) := by decide +kernel
theorem d_MD_delivered_24 : decode c_MD_delivered 24 = .ok (.imul, 1) := by decide +kernel
theorem d_MD_delivered_25 : decode c_MD_delivered 25 = .ok (.iload_n 2, 1) := by decide +kernel
theorem d_MD_delivered_26 : decode c_MD_delivered 26 = .ok (.iadd, 1) := by decide +kernel
theorem d_MD_delivered_27 : decode c_MD_delivered 27 = .ok (.iaload, 1) := by decide +kernel
theorem d_MD_delivered_28 : decode c_MD_delivered 28 = .ok (.goto 4, 3) := by decide +kernel
theorem d_MD_delivered_31 : decode c_MD_delivered 31 = .ok (.iconst (-1), 1) := by decide +kernel
theorem d_MD_delivered_32 : decode c_MD_delivered 32 = .ok (.ireturn, 1) := by decide +kernel
theorem d_MD_known_0 : decode c_MD_known 0 = .ok (.iload_n 1, 1) := by decide +kernel
theorem d_MD_known_1 : decode c_MD_known 1 = .ok (.iconst 0, 1) := by decide +kernel
theorem d_MD_known_2 : decode c_MD_known 2 = .ok (.iconst 3, 1) := by decide +kernel
theorem d_MD_known_3 : decode c_MD_known 3 = .ok (.invokestatic 74, 3) := by decide +kernel
theorem d_MD_known_6 : decode c_MD_known 6 = .ok (.ifCond .eq 12, 3) := by decide +kernel
theorem d_MD_known_9 : decode c_MD_known 9 = .ok (.iload_n 2, 1) := by decide +kernel
theorem d_MD_known_10 : decode c_MD_known 10 = .ok (.iconst 0, 1) := by decide +kernel
theorem d_MD_known_11 : decode c_MD_known 11 = .ok (.iconst 3, 1) := by decide +kernel
theorem d_MD_known_12 : decode c_MD_known 12 = .ok (.invokestatic 74, 3) := by decide +kernel
theorem d_MD_known_15 : decode c_MD_known 15 = .ok (.ifCond .ne 5, 3) := by decide +kernel
theorem d_MD_known_18 : decode c_MD_known 18 = .ok (.iconst (-1), 1) := by decide +kernel
theorem d_MD_known_19 : decode c_MD_known 19 = .ok (.ireturn, 1) := by decide +kernel
theorem d_MD_known_20 : decode c_MD_known 20 = .ok (.iconst 0, 1) := by decide +kernel
theorem d_MD_known_21 : decode c_MD_known 21 = .ok (.istore_n 3, 1) := by decide +kernel
theorem d_MD_known_22 : decode c_MD_known 22 = .ok (.iconst 0, 1) := by decide +kernel
theorem d_MD_known_23 : decode c_MD_known 23 = .ok (.istore 4, 2) := by decide +kernel
theorem d_MD_known_25 : decode c_MD_known 25 = .ok (.iload 4, 2) := by decide +kernel
theorem d_MD_known_27 : decode c_MD_known 27 = .ok (.iconst 4, 1) := by decide +kernel
theorem d_MD_known_28 : decode c_MD_known 28 = .ok (.if_icmp .ge 42, 3) := by decide +kernel
theorem d_MD_known_31 : decode c_MD_known 31 = .ok (.aload_n 0, 1) := by decide +kernel
theorem d_MD_known_32 : decode c_MD_known 32 = .ok (.getfield 53, 3) := by decide +kernel
theorem d_MD_known_35 : decode c_MD_known 35 = .ok (.sipush 256, 3) := by decide +kernel
theorem d_MD_known_38 : decode c_MD_known 38 = .ok (.iload_n 1, 1) := by decide +kernel
theorem d_MD_known_39 : decode c_MD_known 39 = .ok (.imul, 1) := by decide +kernel
theorem d_MD_known_40 : decode c_MD_known 40 = .ok (.bipush 16, 2) := by decide +kernel
theorem d_MD_known_42 : decode c_MD_known 42 = .ok (.aload_n 0, 1) := by decide +kernel
theorem d_MD_known_43 : decode c_MD_known 43 = .ok (.getfield 7, 3) := by decide +kernel
theorem d_MD_known_46 : decode c_MD_known 46 = .ok (.iload_n 1, 1) := by decide +kernel
theorem d_MD_known_47 : decode c_MD_known 47 = .ok (.iaload, 1) := by decide +kernel
theorem d_MD_known_48 : decode c_MD_known 48 = .ok (.imul, 1) := by decide +kernel
theorem d_MD_known_49 : decode c_MD_known 49 = .ok (.iadd, 1) := by decide +kernel
theorem d_MD_known_50 : decode c_MD_known 50 = .ok (.iconst 4, 1) := by decide +kernel
theorem d_MD_known_51 : decode c_MD_known 51 = .ok (.iload_n 2, 1) := by decide +kernel
theorem d_MD_known_52 : decode c_MD_known 52 = .ok (.imul, 1) := by decide +kernel
theorem d_MD_known_53 : decode c_MD_known 53 = .ok (.iadd, 1) := by decide +kernel
theorem d_MD_known_54 : decode c_MD_known 54 = .ok (.iload 4, 2) := by decide +kernel
theorem d_MD_known_56 : decode c_MD_known 56 = .ok (.iadd, 1) := by decide +kernel
theorem d_MD_known_57 : decode c_MD_known 57 = .ok (.baload, 1) := by decide +kernel
theorem d_MD_known_58 : decode c_MD_known 58 = .ok (.ifCond .eq 6, 3) := by decide +kernel
theorem d_MD_known_61 : decode c_MD_known 61 = .ok (.iinc 3 1, 3) := by decide +kernel
theorem d_MD_known_64 : decode c_MD_known 64 = .ok (.iinc 4 1, 3) := by decide +kernel
theorem d_MD_known_67 : decode c_MD_known 67 = .ok (.goto (-42), 3) := by decide +kernel
theorem d_MD_known_70 : decode c_MD_known 70 = .ok (.iload_n 3, 1) := by decide +kernel
theorem d_MD_known_71 : decode c_MD_known 71 = .ok (.ireturn, 1) := by decide +kernel
theorem d_MD_waiting_0 : decode c_MD_waiting 0 = .ok (.iload_n 1, 1) := by decide +kernel
theorem d_MD_waiting_1 : decode c_MD_waiting 1 = .ok (.iconst 0, 1) := by decide +kernel
theorem d_MD_waiting_2 : decode c_MD_waiting 2 = .ok (.iconst 3, 1) := by decide +kernel
theorem d_MD_waiting_3 : decode c_MD_waiting 3 = .ok (.invokestatic 74, 3) := by decide +kernel
theorem d_MD_waiting_6 : decode c_MD_waiting 6 = .ok (.ifCond .eq 30, 3) := by decide +kernel
theorem d_MD_waiting_9 : decode c_MD_waiting 9 = .ok (.iload_n 2, 1) := by decide +kernel
theorem d_MD_waiting_10 : decode c_MD_waiting 10 = .ok (.iconst 0, 1) := by decide +kernel
theorem d_MD_waiting_11 : decode c_MD_waiting 11 = .ok (.iconst 3, 1) := by decide +kernel
theorem d_MD_waiting_12 : decode c_MD_waiting 12 = .ok (.invokestatic 74, 3) := by decide +kernel
theorem d_MD_waiting_15 : decode c_MD_waiting 15 = .ok (.ifCond .eq 21, 3) := by decide +kernel
theorem d_MD_waiting_18 : decode c_MD_waiting 18 = .ok (.iload_n 1, 1) := by decide +kernel
theorem d_MD_waiting_19 : decode c_MD_waiting 19 = .ok (.iload_n 2, 1) := by decide +kernel
theorem d_MD_waiting_20 : decode c_MD_waiting 20 = .ok (.if_icmp .eq 16, 3) := by decide +kernel
theorem d_MD_waiting_23 : decode c_MD_waiting 23 = .ok (.aload_n 0, 1) := by decide +kernel
theorem d_MD_waiting_24 : decode c_MD_waiting 24 = .ok (.getfield 68, 3) := by decide +kernel
theorem d_MD_waiting_27 : decode c_MD_waiting 27 = .ok (.iconst 4, 1) := by decide +kernel
theorem d_MD_waiting_28 : decode c_MD_waiting 28 = .ok (.iload_n 1, 1) := by decide +kernel
theorem d_MD_waiting_29 : decode c_MD_waiting 29 = .ok (.imul, 1) := by decide +kernel
theorem d_MD_waiting_30 : decode c_MD_waiting 30 = .ok (.iload_n 2, 1) := by decide +kernel
theorem d_MD_waiting_31 : decode c_MD_waiting 31 = .ok (.iadd, 1) := by decide +kernel
theorem d_MD_waiting_32 : decode c_MD_waiting 32 = .ok (.iaload, 1) := by decide +kernel
theorem d_MD_waiting_33 : decode c_MD_waiting 33 = .ok (.goto 4, 3) := by decide +kernel
theorem d_MD_waiting_36 : decode c_MD_waiting 36 = .ok (.iconst (-1), 1) := by decide +kernel
theorem d_MD_waiting_37 : decode c_MD_waiting 37 = .ok (.ireturn, 1) := by decide +kernel
end
section
theorem d_LW_law_0 : decode code 0 = .ok (.new 7, 3) := by decide +kernel
theorem d_LW_law_3 : decode code 3 = .ok (.dup, 1) := by decide +kernel
theorem d_LW_law_4 : decode code 4 = .ok (.invokespecial 9, 3) := by decide +kernel
theorem d_LW_law_7 : decode code 7 = .ok (.astore_n 1, 1) := by decide +kernel
theorem d_LW_law_8 : decode code 8 = .ok (.new 10, 3) := by decide +kernel
theorem d_LW_law_11 : decode code 11 = .ok (.dup, 1) := by decide +kernel
theorem d_LW_law_12 : decode code 12 = .ok (.invokespecial 12, 3) := by decide +kernel
theorem d_LW_law_15 : decode code 15 = .ok (.astore_n 2, 1) := by decide +kernel
theorem d_LW_law_16 : decode code 16 = .ok (.iconst 0, 1) := by decide +kernel
theorem d_LW_law_17 : decode code 17 = .ok (.istore_n 3, 1) := by decide +kernel
theorem d_LW_law_18 : decode code 18 = .ok (.iload_n 3, 1) := by decide +kernel
theorem d_LW_law_19 : decode code 19 = .ok (.aload_n 0, 1) := by decide +kernel
theorem d_LW_law_20 : decode code 20 = .ok (.arraylength, 1) := by decide +kernel
theorem d_LW_law_21 : decode code 21 = .ok (.iconst 3, 1) := by decide +kernel
theorem d_LW_law_22 : decode code 22 = .ok (.isub, 1) := by decide +kernel
theorem d_LW_law_23 : decode code 23 = .ok (.if_icmp .gt 580, 3) := by decide +kernel
theorem d_LW_law_26 : decode code 26 = .ok (.aload_n 0, 1) := by decide +kernel
theorem d_LW_law_27 : decode code 27 = .ok (.iload_n 3, 1) := by decide +kernel
theorem d_LW_law_28 : decode code 28 = .ok (.iaload, 1) := by decide +kernel
theorem d_LW_law_29 : decode code 29 = .ok (.bipush 31, 2) := by decide +kernel
theorem d_LW_law_31 : decode code 31 = .ok (.iand, 1) := by decide +kernel
theorem d_LW_law_32 : decode code 32 = .ok (.tableswitch 565 0 16 #[84, 117, 150, 173, 206, 239, 262, 295, 318, 341, 374, 397, 420, 443, 466, 499, 532], 84) := by decide +kernel
theorem d_LW_law_116 : decode code 116 = .ok (.aload_n 1, 1) := by decide +kernel
theorem d_LW_law_117 : decode code 117 = .ok (.aload_n 0, 1) := by decide +kernel
theorem d_LW_law_118 : decode code 118 = .ok (.iload_n 3, 1) := by decide +kernel
theorem d_LW_law_119 : decode code 119 = .ok (.iconst 1, 1) := by decide +kernel
theorem d_LW_law_120 : decode code 120 = .ok (.iadd, 1) := by decide +kernel
theorem d_LW_law_121 : decode code 121 = .ok (.iaload, 1) := by decide +kernel
theorem d_LW_law_122 : decode code 122 = .ok (.aload_n 0, 1) := by decide +kernel
theorem d_LW_law_123 : decode code 123 = .ok (.iload_n 3, 1) := by decide +kernel
theorem d_LW_law_124 : decode code 124 = .ok (.iconst 2, 1) := by decide +kernel
theorem d_LW_law_125 : decode code 125 = .ok (.iadd, 1) := by decide +kernel
theorem d_LW_law_126 : decode code 126 = .ok (.iaload, 1) := by decide +kernel
theorem d_LW_law_127 : decode code 127 = .ok (.invokevirtual 13, 3) := by decide +kernel
theorem d_LW_law_130 : decode code 130 = .ok (.aload_n 2, 1) := by decide +kernel
theorem d_LW_law_131 : decode code 131 = .ok (.aload_n 0, 1) := by decide +kernel
theorem d_LW_law_132 : decode code 132 = .ok (.iload_n 3, 1) := by decide +kernel
theorem d_LW_law_133 : decode code 133 = .ok (.iconst 1, 1) := by decide +kernel
theorem d_LW_law_134 : decode code 134 = .ok (.iadd, 1) := by decide +kernel
theorem d_LW_law_135 : decode code 135 = .ok (.iaload, 1) := by decide +kernel
theorem d_LW_law_136 : decode code 136 = .ok (.aload_n 0, 1) := by decide +kernel
theorem d_LW_law_137 : decode code 137 = .ok (.iload_n 3, 1) := by decide +kernel
theorem d_LW_law_138 : decode code 138 = .ok (.iconst 2, 1) := by decide +kernel
theorem d_LW_law_139 : decode code 139 = .ok (.iadd, 1) := by decide +kernel
theorem d_LW_law_140 : decode code 140 = .ok (.iaload, 1) := by decide +kernel
theorem d_LW_law_141 : decode code 141 = .ok (.invokevirtual 17, 3) := by decide +kernel
theorem d_LW_law_144 : decode code 144 = .ok (.if_icmp .eq 453, 3) := by decide +kernel
theorem d_LW_law_147 : decode code 147 = .ok (.iconst 0, 1) := by decide +kernel
theorem d_LW_law_148 : decode code 148 = .ok (.ireturn, 1) := by decide +kernel
theorem d_LW_law_149 : decode code 149 = .ok (.aload_n 1, 1) := by decide +kernel
theorem d_LW_law_150 : decode code 150 = .ok (.aload_n 0, 1) := by decide +kernel
theorem d_LW_law_151 : decode code 151 = .ok (.iload_n 3, 1) := by decide +kernel
theorem d_LW_law_152 : decode code 152 = .ok (.iconst 1, 1) := by decide +kernel
theorem d_LW_law_153 : decode code 153 = .ok (.iadd, 1) := by decide +kernel
theorem d_LW_law_154 : decode code 154 = .ok (.iaload, 1) := by decide +kernel
theorem d_LW_law_155 : decode code 155 = .ok (.aload_n 0, 1) := by decide +kernel
theorem d_LW_law_156 : decode code 156 = .ok (.iload_n 3, 1) := by decide +kernel
theorem d_LW_law_157 : decode code 157 = .ok (.iconst 2, 1) := by decide +kernel
theorem d_LW_law_158 : decode code 158 = .ok (.iadd, 1) := by decide +kernel
theorem d_LW_law_159 : decode code 159 = .ok (.iaload, 1) := by decide +kernel
theorem d_LW_law_160 : decode code 160 = .ok (.invokevirtual 18, 3) := by decide +kernel
theorem d_LW_law_163 : decode code 163 = .ok (.aload_n 2, 1) := by decide +kernel
theorem d_LW_law_164 : decode code 164 = .ok (.aload_n 0, 1) := by decide +kernel
theorem d_LW_law_165 : decode code 165 = .ok (.iload_n 3, 1) := by decide +kernel
theorem d_LW_law_166 : decode code 166 = .ok (.iconst 1, 1) := by decide +kernel
theorem d_LW_law_167 : decode code 167 = .ok (.iadd, 1) := by decide +kernel
theorem d_LW_law_168 : decode code 168 = .ok (.iaload, 1) := by decide +kernel
theorem d_LW_law_169 : decode code 169 = .ok (.aload_n 0, 1) := by decide +kernel
theorem d_LW_law_170 : decode code 170 = .ok (.iload_n 3, 1) := by decide +kernel
theorem d_LW_law_171 : decode code 171 = .ok (.iconst 2, 1) := by decide +kernel
theorem d_LW_law_172 : decode code 172 = .ok (.iadd, 1) := by decide +kernel
theorem d_LW_law_173 : decode code 173 = .ok (.iaload, 1) := by decide +kernel
theorem d_LW_law_174 : decode code 174 = .ok (.invokevirtual 21, 3) := by decide +kernel
theorem d_LW_law_177 : decode code 177 = .ok (.if_icmp .eq 420, 3) := by decide +kernel
theorem d_LW_law_180 : decode code 180 = .ok (.iconst 0, 1) := by decide +kernel
theorem d_LW_law_181 : decode code 181 = .ok (.ireturn, 1) := by decide +kernel
theorem d_LW_law_182 : decode code 182 = .ok (.aload_n 1, 1) := by decide +kernel
theorem d_LW_law_183 : decode code 183 = .ok (.aload_n 0, 1) := by decide +kernel
theorem d_LW_law_184 : decode code 184 = .ok (.iload_n 3, 1) := by decide +kernel
theorem d_LW_law_185 : decode code 185 = .ok (.iconst 1, 1) := by decide +kernel
theorem d_LW_law_186 : decode code 186 = .ok (.iadd, 1) := by decide +kernel
theorem d_LW_law_187 : decode code 187 = .ok (.iaload, 1) := by decide +kernel
theorem d_LW_law_188 : decode code 188 = .ok (.invokevirtual 22, 3) := by decide +kernel
theorem d_LW_law_191 : decode code 191 = .ok (.aload_n 2, 1) := by decide +kernel
theorem d_LW_law_192 : decode code 192 = .ok (.aload_n 0, 1) := by decide +kernel
theorem d_LW_law_193 : decode code 193 = .ok (.iload_n 3, 1) := by decide +kernel
theorem d_LW_law_194 : decode code 194 = .ok (.iconst 1, 1) := by decide +kernel
theorem d_LW_law_195 : decode code 195 = .ok (.iadd, 1) := by decide +kernel
theorem d_LW_law_196 : decode code 196 = .ok (.iaload, 1) := by decide +kernel
theorem d_LW_law_197 : decode code 197 = .ok (.invokevirtual 26, 3) := by decide +kernel
theorem d_LW_law_200 : decode code 200 = .ok (.if_icmp .eq 397, 3) := by decide +kernel
theorem d_LW_law_203 : decode code 203 = .ok (.iconst 0, 1) := by decide +kernel
theorem d_LW_law_204 : decode code 204 = .ok (.ireturn, 1) := by decide +kernel
theorem d_LW_law_205 : decode code 205 = .ok (.aload_n 1, 1) := by decide +kernel
theorem d_LW_law_206 : decode code 206 = .ok (.aload_n 0, 1) := by decide +kernel
theorem d_LW_law_207 : decode code 207 = .ok (.iload_n 3, 1) := by decide +kernel
theorem d_LW_law_208 : decode code 208 = .ok (.iconst 1, 1) := by decide +kernel
theorem d_LW_law_209 : decode code 209 = .ok (.iadd, 1) := by decide +kernel
theorem d_LW_law_210 : decode code 210 = .ok (.iaload, 1) := by decide +kernel
theorem d_LW_law_211 : decode code 211 = .ok (.aload_n 0, 1) := by decide +kernel
theorem d_LW_law_212 : decode code 212 = .ok (.iload_n 3, 1) := by decide +kernel
theorem d_LW_law_213 : decode code 213 = .ok (.iconst 2, 1) := by decide +kernel
theorem d_LW_law_214 : decode code 214 = .ok (.iadd, 1) := by decide +kernel
theorem d_LW_law_215 : decode code 215 = .ok (.iaload, 1) := by decide +kernel
theorem d_LW_law_216 : decode code 216 = .ok (.invokevirtual 27, 3) := by decide +kernel
theorem d_LW_law_219 : decode code 219 = .ok (.aload_n 2, 1) := by decide +kernel
theorem d_LW_law_220 : decode code 220 = .ok (.aload_n 0, 1) := by decide +kernel
theorem d_LW_law_221 : decode code 221 = .ok (.iload_n 3, 1) := by decide +kernel
theorem d_LW_law_222 : decode code 222 = .ok (.iconst 1, 1) := by decide +kernel
theorem d_LW_law_223 : decode code 223 = .ok (.iadd, 1) := by decide +kernel
theorem d_LW_law_224 : decode code 224 = .ok (.iaload, 1) := by decide +kernel
theorem d_LW_law_225 : decode code 225 = .ok (.aload_n 0, 1) := by decide +kernel
theorem d_LW_law_226 : decode code 226 = .ok (.iload_n 3, 1) := by decide +kernel
theorem d_LW_law_227 : decode code 227 = .ok (.iconst 2, 1) := by decide +kernel
theorem d_LW_law_228 : decode code 228 = .ok (.iadd, 1) := by decide +kernel
theorem d_LW_law_229 : decode code 229 = .ok (.iaload, 1) := by decide +kernel
theorem d_LW_law_230 : decode code 230 = .ok (.invokevirtual 30, 3) := by decide +kernel
theorem d_LW_law_233 : decode code 233 = .ok (.if_icmp .eq 364, 3) := by decide +kernel
theorem d_LW_law_236 : decode code 236 = .ok (.iconst 0, 1) := by decide +kernel
theorem d_LW_law_237 : decode code 237 = .ok (.ireturn, 1) := by decide +kernel
theorem d_LW_law_238 : decode code 238 = .ok (.aload_n 1, 1) := by decide +kernel
theorem d_LW_law_239 : decode code 239 = .ok (.aload_n 0, 1) := by decide +kernel
theorem d_LW_law_240 : decode code 240 = .ok (.iload_n 3, 1) := by decide +kernel
theorem d_LW_law_241 : decode code 241 = .ok (.iconst 1, 1) := by decide +kernel
theorem d_LW_law_242 : decode code 242 = .ok (.iadd, 1) := by decide +kernel
theorem d_LW_law_243 : decode code 243 = .ok (.iaload, 1) := by decide +kernel
theorem d_LW_law_244 : decode code 244 = .ok (.aload_n 0, 1) := by decide +kernel
theorem d_LW_law_245 : decode code 245 = .ok (.iload_n 3, 1) := by decide +kernel
theorem d_LW_law_246 : decode code 246 = .ok (.iconst 2, 1) := by decide +kernel
theorem d_LW_law_247 : decode code 247 = .ok (.iadd, 1) := by decide +kernel
theorem d_LW_law_248 : decode code 248 = .ok (.iaload, 1) := by decide +kernel
theorem d_LW_law_249 : decode code 249 = .ok (.invokevirtual 31, 3) := by decide +kernel
theorem d_LW_law_252 : decode code 252 = .ok (.aload_n 2, 1) := by decide +kernel
theorem d_LW_law_253 : decode code 253 = .ok (.aload_n 0, 1) := by decide +kernel
theorem d_LW_law_254 : decode code 254 = .ok (.iload_n 3, 1) := by decide +kernel
theorem d_LW_law_255 : decode code 255 = .ok (.iconst 1, 1) := by decide +kernel
theorem d_LW_law_256 : decode code 256 = .ok (.iadd, 1) := by decide +kernel
theorem d_LW_law_257 : decode code 257 = .ok (.iaload, 1) := by decide +kernel
theorem d_LW_law_258 : decode code 258 = .ok (.aload_n 0, 1) := by decide +kernel
theorem d_LW_law_259 : decode code 259 = .ok (.iload_n 3, 1) := by decide +kernel
theorem d_LW_law_260 : decode code 260 = .ok (.iconst 2, 1) := by decide +kernel
theorem d_LW_law_261 : decode code 261 = .ok (.iadd, 1) := by decide +kernel
theorem d_LW_law_262 : decode code 262 = .ok (.iaload, 1) := by decide +kernel
theorem d_LW_law_263 : decode code 263 = .ok (.invokevirtual 34, 3) := by decide +kernel
theorem d_LW_law_266 : decode code 266 = .ok (.if_icmp .eq 331, 3) := by decide +kernel
theorem d_LW_law_269 : decode code 269 = .ok (.iconst 0, 1) := by decide +kernel
theorem d_LW_law_270 : decode code 270 = .ok (.ireturn, 1) := by decide +kernel
theorem d_LW_law_271 : decode code 271 = .ok (.aload_n 1, 1) := by decide +kernel
theorem d_LW_law_272 : decode code 272 = .ok (.aload_n 0, 1) := by decide +kernel
theorem d_LW_law_273 : decode code 273 = .ok (.iload_n 3, 1) := by decide +kernel
theorem d_LW_law_274 : decode code 274 = .ok (.iconst 1, 1) := by decide +kernel
theorem d_LW_law_275 : decode code 275 = .ok (.iadd, 1) := by decide +kernel
theorem d_LW_law_276 : decode code 276 = .ok (.iaload, 1) := by decide +kernel
theorem d_LW_law_277 : decode code 277 = .ok (.invokevirtual 35, 3) := by decide +kernel
theorem d_LW_law_280 : decode code 280 = .ok (.aload_n 2, 1) := by decide +kernel
theorem d_LW_law_281 : decode code 281 = .ok (.aload_n 0, 1) := by decide +kernel
theorem d_LW_law_282 : decode code 282 = .ok (.iload_n 3, 1) := by decide +kernel
theorem d_LW_law_283 : decode code 283 = .ok (.iconst 1, 1) := by decide +kernel
theorem d_LW_law_284 : decode code 284 = .ok (.iadd, 1) := by decide +kernel
theorem d_LW_law_285 : decode code 285 = .ok (.iaload, 1) := by decide +kernel
theorem d_LW_law_286 : decode code 286 = .ok (.invokevirtual 38, 3) := by decide +kernel
theorem d_LW_law_289 : decode code 289 = .ok (.if_icmp .eq 308, 3) := by decide +kernel
theorem d_LW_law_292 : decode code 292 = .ok (.iconst 0, 1) := by decide +kernel
theorem d_LW_law_293 : decode code 293 = .ok (.ireturn, 1) := by decide +kernel
theorem d_LW_law_294 : decode code 294 = .ok (.aload_n 1, 1) := by decide +kernel
theorem d_LW_law_295 : decode code 295 = .ok (.aload_n 0, 1) := by decide +kernel
theorem d_LW_law_296 : decode code 296 = .ok (.iload_n 3, 1) := by decide +kernel
theorem d_LW_law_297 : decode code 297 = .ok (.iconst 1, 1) := by decide +kernel
theorem d_LW_law_298 : decode code 298 = .ok (.iadd, 1) := by decide +kernel
theorem d_LW_law_299 : decode code 299 = .ok (.iaload, 1) := by decide +kernel
theorem d_LW_law_300 : decode code 300 = .ok (.aload_n 0, 1) := by decide +kernel
theorem d_LW_law_301 : decode code 301 = .ok (.iload_n 3, 1) := by decide +kernel
theorem d_LW_law_302 : decode code 302 = .ok (.iconst 2, 1) := by decide +kernel
theorem d_LW_law_303 : decode code 303 = .ok (.iadd, 1) := by decide +kernel
theorem d_LW_law_304 : decode code 304 = .ok (.iaload, 1) := by decide +kernel
theorem d_LW_law_305 : decode code 305 = .ok (.invokevirtual 39, 3) := by decide +kernel
theorem d_LW_law_308 : decode code 308 = .ok (.aload_n 2, 1) := by decide +kernel
theorem d_LW_law_309 : decode code 309 = .ok (.aload_n 0, 1) := by decide +kernel
theorem d_LW_law_310 : decode code 310 = .ok (.iload_n 3, 1) := by decide +kernel
theorem d_LW_law_311 : decode code 311 = .ok (.iconst 1, 1) := by decide +kernel
theorem d_LW_law_312 : decode code 312 = .ok (.iadd, 1) := by decide +kernel
theorem d_LW_law_313 : decode code 313 = .ok (.iaload, 1) := by decide +kernel
theorem d_LW_law_314 : decode code 314 = .ok (.aload_n 0, 1) := by decide +kernel
theorem d_LW_law_315 : decode code 315 = .ok (.iload_n 3, 1) := by decide +kernel
theorem d_LW_law_316 : decode code 316 = .ok (.iconst 2, 1) := by decide +kernel
theorem d_LW_law_317 : decode code 317 = .ok (.iadd, 1) := by decide +kernel
theorem d_LW_law_318 : decode code 318 = .ok (.iaload, 1) := by decide +kernel
theorem d_LW_law_319 : decode code 319 = .ok (.invokevirtual 42, 3) := by decide +kernel
theorem d_LW_law_322 : decode code 322 = .ok (.if_icmp .eq 275, 3) := by decide +kernel
theorem d_LW_law_325 : decode code 325 = .ok (.iconst 0, 1) := by decide +kernel
theorem d_LW_law_326 : decode code 326 = .ok (.ireturn, 1) := by decide +kernel
theorem d_LW_law_327 : decode code 327 = .ok (.aload_n 1, 1) := by decide +kernel
theorem d_LW_law_328 : decode code 328 = .ok (.aload_n 0, 1) := by decide +kernel
theorem d_LW_law_329 : decode code 329 = .ok (.iload_n 3, 1) := by decide +kernel
theorem d_LW_law_330 : decode code 330 = .ok (.iconst 1, 1) := by decide +kernel
theorem d_LW_law_331 : decode code 331 = .ok (.iadd, 1) := by decide +kernel
theorem d_LW_law_332 : decode code 332 = .ok (.iaload, 1) := by decide +kernel
theorem d_LW_law_333 : decode code 333 = .ok (.invokevirtual 43, 3) := by decide +kernel
theorem d_LW_law_336 : decode code 336 = .ok (.aload_n 2, 1) := by decide +kernel
theorem d_LW_law_337 : decode code 337 = .ok (.aload_n 0, 1) := by decide +kernel
theorem d_LW_law_338 : decode code 338 = .ok (.iload_n 3, 1) := by decide +kernel
theorem d_LW_law_339 : decode code 339 = .ok (.iconst 1, 1) := by decide +kernel
theorem d_LW_law_340 : decode code 340 = .ok (.iadd, 1) := by decide +kernel
theorem d_LW_law_341 : decode code 341 = .ok (.iaload, 1) := by decide +kernel
theorem d_LW_law_342 : decode code 342 = .ok (.invokevirtual 46, 3) := by decide +kernel
theorem d_LW_law_345 : decode code 345 = .ok (.if_icmp .eq 252, 3) := by decide +kernel
theorem d_LW_law_348 : decode code 348 = .ok (.iconst 0, 1) := by decide +kernel
theorem d_LW_law_349 : decode code 349 = .ok (.ireturn, 1) := by decide +kernel
theorem d_LW_law_350 : decode code 350 = .ok (.aload_n 1, 1) := by decide +kernel
theorem d_LW_law_351 : decode code 351 = .ok (.aload_n 0, 1) := by decide +kernel
theorem d_LW_law_352 : decode code 352 = .ok (.iload_n 3, 1) := by decide +kernel
theorem d_LW_law_353 : decode code 353 = .ok (.iconst 1, 1) := by decide +kernel
theorem d_LW_law_354 : decode code 354 = .ok (.iadd, 1) := by decide +kernel
theorem d_LW_law_355 : decode code 355 = .ok (.iaload, 1) := by decide +kernel
theorem d_LW_law_356 : decode code 356 = .ok (.invokevirtual 47, 3) := by decide +kernel
theorem d_LW_law_359 : decode code 359 = .ok (.aload_n 2, 1) := by decide +kernel
theorem d_LW_law_360 : decode code 360 = .ok (.aload_n 0, 1) := by decide +kernel
theorem d_LW_law_361 : decode code 361 = .ok (.iload_n 3, 1) := by decide +kernel
theorem d_LW_law_362 : decode code 362 = .ok (.iconst 1, 1) := by decide +kernel
theorem d_LW_law_363 : decode code 363 = .ok (.iadd, 1) := by decide +kernel
theorem d_LW_law_364 : decode code 364 = .ok (.iaload, 1) := by decide +kernel
theorem d_LW_law_365 : decode code 365 = .ok (.invokevirtual 50, 3) := by decide +kernel
theorem d_LW_law_368 : decode code 368 = .ok (.if_icmp .eq 229, 3) := by decide +kernel
theorem d_LW_law_371 : decode code 371 = .ok (.iconst 0, 1) := by decide +kernel
theorem d_LW_law_372 : decode code 372 = .ok (.ireturn, 1) := by decide +kernel
theorem d_LW_law_373 : decode code 373 = .ok (.aload_n 1, 1) := by decide +kernel
theorem d_LW_law_374 : decode code 374 = .ok (.aload_n 0, 1) := by decide +kernel
theorem d_LW_law_375 : decode code 375 = .ok (.iload_n 3, 1) := by decide +kernel
theorem d_LW_law_376 : decode code 376 = .ok (.iconst 1, 1) := by decide +kernel
theorem d_LW_law_377 : decode code 377 = .ok (.iadd, 1) := by decide +kernel
theorem d_LW_law_378 : decode code 378 = .ok (.iaload, 1) := by decide +kernel
theorem d_LW_law_379 : decode code 379 = .ok (.aload_n 0, 1) := by decide +kernel
theorem d_LW_law_380 : decode code 380 = .ok (.iload_n 3, 1) := by decide +kernel
theorem d_LW_law_381 : decode code 381 = .ok (.iconst 2, 1) := by decide +kernel
theorem d_LW_law_382 : decode code 382 = .ok (.iadd, 1) := by decide +kernel
theorem d_LW_law_383 : decode code 383 = .ok (.iaload, 1) := by decide +kernel
theorem d_LW_law_384 : decode code 384 = .ok (.invokevirtual 51, 3) := by decide +kernel
theorem d_LW_law_387 : decode code 387 = .ok (.aload_n 2, 1) := by decide +kernel
theorem d_LW_law_388 : decode code 388 = .ok (.aload_n 0, 1) := by decide +kernel
theorem d_LW_law_389 : decode code 389 = .ok (.iload_n 3, 1) := by decide +kernel
theorem d_LW_law_390 : decode code 390 = .ok (.iconst 1, 1) := by decide +kernel
theorem d_LW_law_391 : decode code 391 = .ok (.iadd, 1) := by decide +kernel
theorem d_LW_law_392 : decode code 392 = .ok (.iaload, 1) := by decide +kernel
theorem d_LW_law_393 : decode code 393 = .ok (.aload_n 0, 1) := by decide +kernel
theorem d_LW_law_394 : decode code 394 = .ok (.iload_n 3, 1) := by decide +kernel
theorem d_LW_law_395 : decode code 395 = .ok (.iconst 2, 1) := by decide +kernel
theorem d_LW_law_396 : decode code 396 = .ok (.iadd, 1) := by decide +kernel
theorem d_LW_law_397 : decode code 397 = .ok (.iaload, 1) := by decide +kernel
theorem d_LW_law_398 : decode code 398 = .ok (.invokevirtual 54, 3) := by decide +kernel
theorem d_LW_law_401 : decode code 401 = .ok (.if_icmp .eq 196, 3) := by decide +kernel
theorem d_LW_law_404 : decode code 404 = .ok (.iconst 0, 1) := by decide +kernel
theorem d_LW_law_405 : decode code 405 = .ok (.ireturn, 1) := by decide +kernel
theorem d_LW_law_406 : decode code 406 = .ok (.aload_n 1, 1) := by decide +kernel
theorem d_LW_law_407 : decode code 407 = .ok (.aload_n 0, 1) := by decide +kernel
theorem d_LW_law_408 : decode code 408 = .ok (.iload_n 3, 1) := by decide +kernel
theorem d_LW_law_409 : decode code 409 = .ok (.iconst 1, 1) := by decide +kernel
theorem d_LW_law_410 : decode code 410 = .ok (.iadd, 1) := by decide +kernel
theorem d_LW_law_411 : decode code 411 = .ok (.iaload, 1) := by decide +kernel
theorem d_LW_law_412 : decode code 412 = .ok (.invokevirtual 55, 3) := by decide +kernel
theorem d_LW_law_415 : decode code 415 = .ok (.aload_n 2, 1) := by decide +kernel
theorem d_LW_law_416 : decode code 416 = .ok (.aload_n 0, 1) := by decide +kernel
theorem d_LW_law_417 : decode code 417 = .ok (.iload_n 3, 1) := by decide +kernel
theorem d_LW_law_418 : decode code 418 = .ok (.iconst 1, 1) := by decide +kernel
theorem d_LW_law_419 : decode code 419 = .ok (.iadd, 1) := by decide +kernel
theorem d_LW_law_420 : decode code 420 = .ok (.iaload, 1) := by decide +kernel
theorem d_LW_law_421 : decode code 421 = .ok (.invokevirtual 59, 3) := by decide +kernel
theorem d_LW_law_424 : decode code 424 = .ok (.if_icmp .eq 173, 3) := by decide +kernel
theorem d_LW_law_427 : decode code 427 = .ok (.iconst 0, 1) := by decide +kernel
theorem d_LW_law_428 : decode code 428 = .ok (.ireturn, 1) := by decide +kernel
theorem d_LW_law_429 : decode code 429 = .ok (.aload_n 1, 1) := by decide +kernel
theorem d_LW_law_430 : decode code 430 = .ok (.aload_n 0, 1) := by decide +kernel
theorem d_LW_law_431 : decode code 431 = .ok (.iload_n 3, 1) := by decide +kernel
theorem d_LW_law_432 : decode code 432 = .ok (.iconst 1, 1) := by decide +kernel
theorem d_LW_law_433 : decode code 433 = .ok (.iadd, 1) := by decide +kernel
theorem d_LW_law_434 : decode code 434 = .ok (.iaload, 1) := by decide +kernel
theorem d_LW_law_435 : decode code 435 = .ok (.invokevirtual 60, 3) := by decide +kernel
theorem d_LW_law_438 : decode code 438 = .ok (.aload_n 2, 1) := by decide +kernel
theorem d_LW_law_439 : decode code 439 = .ok (.aload_n 0, 1) := by decide +kernel
theorem d_LW_law_440 : decode code 440 = .ok (.iload_n 3, 1) := by decide +kernel
theorem d_LW_law_441 : decode code 441 = .ok (.iconst 1, 1) := by decide +kernel
theorem d_LW_law_442 : decode code 442 = .ok (.iadd, 1) := by decide +kernel
theorem d_LW_law_443 : decode code 443 = .ok (.iaload, 1) := by decide +kernel
theorem d_LW_law_444 : decode code 444 = .ok (.invokevirtual 63, 3) := by decide +kernel
theorem d_LW_law_447 : decode code 447 = .ok (.if_icmp .eq 150, 3) := by decide +kernel
theorem d_LW_law_450 : decode code 450 = .ok (.iconst 0, 1) := by decide +kernel
theorem d_LW_law_451 : decode code 451 = .ok (.ireturn, 1) := by decide +kernel
theorem d_LW_law_452 : decode code 452 = .ok (.aload_n 1, 1) := by decide +kernel
theorem d_LW_law_453 : decode code 453 = .ok (.aload_n 0, 1) := by decide +kernel
theorem d_LW_law_454 : decode code 454 = .ok (.iload_n 3, 1) := by decide +kernel
theorem d_LW_law_455 : decode code 455 = .ok (.iconst 1, 1) := by decide +kernel
theorem d_LW_law_456 : decode code 456 = .ok (.iadd, 1) := by decide +kernel
theorem d_LW_law_457 : decode code 457 = .ok (.iaload, 1) := by decide +kernel
theorem d_LW_law_458 : decode code 458 = .ok (.invokevirtual 64, 3) := by decide +kernel
theorem d_LW_law_461 : decode code 461 = .ok (.aload_n 2, 1) := by decide +kernel
theorem d_LW_law_462 : decode code 462 = .ok (.aload_n 0, 1) := by decide +kernel
theorem d_LW_law_463 : decode code 463 = .ok (.iload_n 3, 1) := by decide +kernel
theorem d_LW_law_464 : decode code 464 = .ok (.iconst 1, 1) := by decide +kernel
theorem d_LW_law_465 : decode code 465 = .ok (.iadd, 1) := by decide +kernel
theorem d_LW_law_466 : decode code 466 = .ok (.iaload, 1) := by decide +kernel
theorem d_LW_law_467 : decode code 467 = .ok (.invokevirtual 67, 3) := by decide +kernel
theorem d_LW_law_470 : decode code 470 = .ok (.if_icmp .eq 127, 3) := by decide +kernel
theorem d_LW_law_473 : decode code 473 = .ok (.iconst 0, 1) := by decide +kernel
theorem d_LW_law_474 : decode code 474 = .ok (.ireturn, 1) := by decide +kernel
theorem d_LW_law_475 : decode code 475 = .ok (.aload_n 1, 1) := by decide +kernel
theorem d_LW_law_476 : decode code 476 = .ok (.aload_n 0, 1) := by decide +kernel
theorem d_LW_law_477 : decode code 477 = .ok (.iload_n 3, 1) := by decide +kernel
theorem d_LW_law_478 : decode code 478 = .ok (.iconst 1, 1) := by decide +kernel
theorem d_LW_law_479 : decode code 479 = .ok (.iadd, 1) := by decide +kernel
theorem d_LW_law_480 : decode code 480 = .ok (.iaload, 1) := by decide +kernel
theorem d_LW_law_481 : decode code 481 = .ok (.invokevirtual 68, 3) := by decide +kernel
theorem d_LW_law_484 : decode code 484 = .ok (.aload_n 2, 1) := by decide +kernel
theorem d_LW_law_485 : decode code 485 = .ok (.aload_n 0, 1) := by decide +kernel
theorem d_LW_law_486 : decode code 486 = .ok (.iload_n 3, 1) := by decide +kernel
theorem d_LW_law_487 : decode code 487 = .ok (.iconst 1, 1) := by decide +kernel
theorem d_LW_law_488 : decode code 488 = .ok (.iadd, 1) := by decide +kernel
theorem d_LW_law_489 : decode code 489 = .ok (.iaload, 1) := by decide +kernel
theorem d_LW_law_490 : decode code 490 = .ok (.invokevirtual 71, 3) := by decide +kernel
theorem d_LW_law_493 : decode code 493 = .ok (.if_icmp .eq 104, 3) := by decide +kernel
theorem d_LW_law_496 : decode code 496 = .ok (.iconst 0, 1) := by decide +kernel
theorem d_LW_law_497 : decode code 497 = .ok (.ireturn, 1) := by decide +kernel
theorem d_LW_law_498 : decode code 498 = .ok (.aload_n 1, 1) := by decide +kernel
theorem d_LW_law_499 : decode code 499 = .ok (.aload_n 0, 1) := by decide +kernel
theorem d_LW_law_500 : decode code 500 = .ok (.iload_n 3, 1) := by decide +kernel
theorem d_LW_law_501 : decode code 501 = .ok (.iconst 1, 1) := by decide +kernel
theorem d_LW_law_502 : decode code 502 = .ok (.iadd, 1) := by decide +kernel
theorem d_LW_law_503 : decode code 503 = .ok (.iaload, 1) := by decide +kernel
theorem d_LW_law_504 : decode code 504 = .ok (.aload_n 0, 1) := by decide +kernel
theorem d_LW_law_505 : decode code 505 = .ok (.iload_n 3, 1) := by decide +kernel
theorem d_LW_law_506 : decode code 506 = .ok (.iconst 2, 1) := by decide +kernel
theorem d_LW_law_507 : decode code 507 = .ok (.iadd, 1) := by decide +kernel
theorem d_LW_law_508 : decode code 508 = .ok (.iaload, 1) := by decide +kernel
theorem d_LW_law_509 : decode code 509 = .ok (.invokevirtual 72, 3) := by decide +kernel
theorem d_LW_law_512 : decode code 512 = .ok (.aload_n 2, 1) := by decide +kernel
theorem d_LW_law_513 : decode code 513 = .ok (.aload_n 0, 1) := by decide +kernel
theorem d_LW_law_514 : decode code 514 = .ok (.iload_n 3, 1) := by decide +kernel
theorem d_LW_law_515 : decode code 515 = .ok (.iconst 1, 1) := by decide +kernel
theorem d_LW_law_516 : decode code 516 = .ok (.iadd, 1) := by decide +kernel
theorem d_LW_law_517 : decode code 517 = .ok (.iaload, 1) := by decide +kernel
theorem d_LW_law_518 : decode code 518 = .ok (.aload_n 0, 1) := by decide +kernel
theorem d_LW_law_519 : decode code 519 = .ok (.iload_n 3, 1) := by decide +kernel
theorem d_LW_law_520 : decode code 520 = .ok (.iconst 2, 1) := by decide +kernel
theorem d_LW_law_521 : decode code 521 = .ok (.iadd, 1) := by decide +kernel
theorem d_LW_law_522 : decode code 522 = .ok (.iaload, 1) := by decide +kernel
theorem d_LW_law_523 : decode code 523 = .ok (.invokevirtual 75, 3) := by decide +kernel
theorem d_LW_law_526 : decode code 526 = .ok (.if_icmp .eq 71, 3) := by decide +kernel
theorem d_LW_law_529 : decode code 529 = .ok (.iconst 0, 1) := by decide +kernel
theorem d_LW_law_530 : decode code 530 = .ok (.ireturn, 1) := by decide +kernel
theorem d_LW_law_531 : decode code 531 = .ok (.aload_n 1, 1) := by decide +kernel
theorem d_LW_law_532 : decode code 532 = .ok (.aload_n 0, 1) := by decide +kernel
theorem d_LW_law_533 : decode code 533 = .ok (.iload_n 3, 1) := by decide +kernel
theorem d_LW_law_534 : decode code 534 = .ok (.iconst 1, 1) := by decide +kernel
theorem d_LW_law_535 : decode code 535 = .ok (.iadd, 1) := by decide +kernel
theorem d_LW_law_536 : decode code 536 = .ok (.iaload, 1) := by decide +kernel
theorem d_LW_law_537 : decode code 537 = .ok (.aload_n 0, 1) := by decide +kernel
theorem d_LW_law_538 : decode code 538 = .ok (.iload_n 3, 1) := by decide +kernel
theorem d_LW_law_539 : decode code 539 = .ok (.iconst 2, 1) := by decide +kernel
theorem d_LW_law_540 : decode code 540 = .ok (.iadd, 1) := by decide +kernel
theorem d_LW_law_541 : decode code 541 = .ok (.iaload, 1) := by decide +kernel
theorem d_LW_law_542 : decode code 542 = .ok (.invokevirtual 76, 3) := by decide +kernel
theorem d_LW_law_545 : decode code 545 = .ok (.aload_n 2, 1) := by decide +kernel
theorem d_LW_law_546 : decode code 546 = .ok (.aload_n 0, 1) := by decide +kernel
theorem d_LW_law_547 : decode code 547 = .ok (.iload_n 3, 1) := by decide +kernel
theorem d_LW_law_548 : decode code 548 = .ok (.iconst 1, 1) := by decide +kernel
theorem d_LW_law_549 : decode code 549 = .ok (.iadd, 1) := by decide +kernel
theorem d_LW_law_550 : decode code 550 = .ok (.iaload, 1) := by decide +kernel
theorem d_LW_law_551 : decode code 551 = .ok (.aload_n 0, 1) := by decide +kernel
theorem d_LW_law_552 : decode code 552 = .ok (.iload_n 3, 1) := by decide +kernel
theorem d_LW_law_553 : decode code 553 = .ok (.iconst 2, 1) := by decide +kernel
theorem d_LW_law_554 : decode code 554 = .ok (.iadd, 1) := by decide +kernel
theorem d_LW_law_555 : decode code 555 = .ok (.iaload, 1) := by decide +kernel
theorem d_LW_law_556 : decode code 556 = .ok (.invokevirtual 79, 3) := by decide +kernel
theorem d_LW_law_559 : decode code 559 = .ok (.if_icmp .eq 38, 3) := by decide +kernel
theorem d_LW_law_562 : decode code 562 = .ok (.iconst 0, 1) := by decide +kernel
theorem d_LW_law_563 : decode code 563 = .ok (.ireturn, 1) := by decide +kernel
theorem d_LW_law_564 : decode code 564 = .ok (.aload_n 1, 1) := by decide +kernel
theorem d_LW_law_565 : decode code 565 = .ok (.aload_n 0, 1) := by decide +kernel
theorem d_LW_law_566 : decode code 566 = .ok (.iload_n 3, 1) := by decide +kernel
theorem d_LW_law_567 : decode code 567 = .ok (.iconst 1, 1) := by decide +kernel
theorem d_LW_law_568 : decode code 568 = .ok (.iadd, 1) := by decide +kernel
theorem d_LW_law_569 : decode code 569 = .ok (.iaload, 1) := by decide +kernel
theorem d_LW_law_570 : decode code 570 = .ok (.aload_n 0, 1) := by decide +kernel
theorem d_LW_law_571 : decode code 571 = .ok (.iload_n 3, 1) := by decide +kernel
theorem d_LW_law_572 : decode code 572 = .ok (.iconst 2, 1) := by decide +kernel
theorem d_LW_law_573 : decode code 573 = .ok (.iadd, 1) := by decide +kernel
theorem d_LW_law_574 : decode code 574 = .ok (.iaload, 1) := by decide +kernel
theorem d_LW_law_575 : decode code 575 = .ok (.invokevirtual 80, 3) := by decide +kernel
theorem d_LW_law_578 : decode code 578 = .ok (.aload_n 2, 1) := by decide +kernel
theorem d_LW_law_579 : decode code 579 = .ok (.aload_n 0, 1) := by decide +kernel
theorem d_LW_law_580 : decode code 580 = .ok (.iload_n 3, 1) := by decide +kernel
theorem d_LW_law_581 : decode code 581 = .ok (.iconst 1, 1) := by decide +kernel
theorem d_LW_law_582 : decode code 582 = .ok (.iadd, 1) := by decide +kernel
theorem d_LW_law_583 : decode code 583 = .ok (.iaload, 1) := by decide +kernel
theorem d_LW_law_584 : decode code 584 = .ok (.aload_n 0, 1) := by decide +kernel
theorem d_LW_law_585 : decode code 585 = .ok (.iload_n 3, 1) := by decide +kernel
theorem d_LW_law_586 : decode code 586 = .ok (.iconst 2, 1) := by decide +kernel
theorem d_LW_law_587 : decode code 587 = .ok (.iadd, 1) := by decide +kernel
theorem d_LW_law_588 : decode code 588 = .ok (.iaload, 1) := by decide +kernel
theorem d_LW_law_589 : decode code 589 = .ok (.invokevirtual 83, 3) := by decide +kernel
theorem d_LW_law_592 : decode code 592 = .ok (.if_icmp .eq 5, 3) := by decide +kernel
theorem d_LW_law_595 : decode code 595 = .ok (.iconst 0, 1) := by decide +kernel
theorem d_LW_law_596 : decode code 596 = .ok (.ireturn, 1) := by decide +kernel
theorem d_LW_law_597 : decode code 597 = .ok (.iinc 3 3, 3) := by decide +kernel
theorem d_LW_law_600 : decode code 600 = .ok (.goto (-582), 3) := by decide +kernel
theorem d_LW_law_603 : decode code 603 = .ok (.iconst 1, 1) := by decide +kernel
theorem d_LW_law_604 : decode code 604 = .ok (.ireturn, 1) := by decide +kernel
end
section
/-- the locals, by place: what stands at a place that is some .. -/
def lq (ls : Array Slot) (L : List (Option Value)) : Prop := ls.size = L.length ∧ lv_wf ls ∧ ∀ (i : Nat) (v : Value), L[i]? = some (some v) → v.category = 1 ∧ ls[i]? = some (.val v)
def lq_en : Nat → List (Option Value) → List (Nat × Value)
  | _, [] => []
  | k, none :: t => lq_en (k + 1) t
  | k, some v :: t => (k, v) :: lq_en (k + 1) t
theorem lq_en_mem : ∀ (L : List (Option Value)) (k i : Nat) (v : Value), (i, v) ∈ lq_en k L ↔ ∃ j, i = k + j ∧ L[j]? = some (some v)
  | [], k, i, v => by simp [lq_en]
  | none :: t, k, i, v => by
    rw [lq_en, lq_en_mem t (k + 1) i v]
    constructor
    · rintro ⟨j, h1, h2⟩
      exact ⟨j + 1, by omega, by simpa using h2⟩
    · rintro ⟨j, h1, h2⟩
      cases j with
      | zero => simp at h2
      | succ j => exact ⟨j, by omega, by simpa using h2⟩
  | some w :: t, k, i, v => by
    rw [lq_en, List.mem_cons, lq_en_mem t (k + 1) i v]
    constructor
    · rintro (h | ⟨j, h1, h2⟩)
      · cases h
        exact ⟨0, by omega, by simp⟩
      · exact ⟨j + 1, by omega, by simpa using h2⟩
    · rintro ⟨j, h1, h2⟩
      cases j with
      | zero =>
        left
        simp at h2
        subst h2
        simp at h1
        rw [h1]
      | succ j => exact Or.inr ⟨j, by omega, by simpa using h2⟩
theorem lq.has {ls : Array Slot} {L : List (Option Value)} (h : lq ls L) : lv_has ls L.length (lq_en 0 L) := by
  refine ⟨h.1, h.2.1, fun q hq => ?_⟩
  obtain ⟨i, v⟩ := q
  obtain ⟨j, h1, h2⟩ := (lq_en_mem L 0 i v).mp hq
  have h3 : i = j := by omega
  subst h3
  exact (h.2.2 i v h2).2
theorem lq.at {ls : Array Slot} {L : List (Option Value)} (h : lq ls L) {i : Nat} {v : Value} (hi : L[i]? = some (some v)) : ls[i]? = some (.val v) := (h.2.2 i v hi).2
theorem lq.set {ls ls' : Array Slot} {L : List (Option Value)} {i : Nat} {v : Value} (h : lq ls L) (hi : i < L.length) (hc : v.category = 1) (h' : lv_has ls' L.length ((i, v) :: (lq_en 0 L).filter (fun q => !(q.1 == i) && !(q.1 + 1 == i && q.2.category == 2)))) : lq ls' (L.set i (some v)) := by
  refine ⟨by rw [List.length_set]; exact h'.1, h'.2.1, fun j w hj => ?_⟩
  by_cases hij : i = j
  · subst hij
    rw [List.getElem?_set_self hi] at hj
    cases hj
    exact ⟨hc, h'.2.2 (i, v) List.mem_cons_self⟩
  · rw [List.getElem?_set_ne hij] at hj
    have hw := (h.2.2 j w hj).1
    refine ⟨hw, h'.2.2 (j, w) (List.mem_cons_of_mem _ (List.mem_filter.mpr ⟨(lq_en_mem L 0 j w).mpr ⟨j, by omega, hj⟩, ?_⟩))⟩
    have hji : ¬ j = i := fun e => hij e.symm
    simp [hji, hw]
theorem lq_entry (vs : List Value) (hvs : ∀ v ∈ vs, v.category = 1) (n : Nat) (h : vs.length ≤ n) : lq ((lg_sl vs ++ List.replicate (n - (lg_sl vs).length) Slot.unset).toArray) (vs.map some ++ List.replicate (n - vs.length) none) := by
  have e : lg_sl vs = vs.map Slot.val := by
    unfold lg_sl
    induction vs with
    | nil => rfl
    | cons v t ih =>
      have h1 := hvs v List.mem_cons_self
      rw [List.flatMap_cons, ih (fun w hw => hvs w (List.mem_cons_of_mem _ hw)) (by simp at h; omega)]
      simp [h1]
  have hl := lv_entry vs (n := n) (by rw [e, List.length_map]; exact h)
  refine ⟨by rw [hl.1]; simp; omega, hl.2.1, fun i v hi => ?_⟩
  by_cases hiv : i < vs.length
  · rw [List.getElem?_append_left (by simpa using hiv), List.getElem?_map, Option.map_eq_some_iff] at hi
    obtain ⟨w, h1, h2⟩ := hi
    cases h2
    refine ⟨hvs _ (List.mem_of_getElem? h1), ?_⟩
    rw [e, List.getElem?_toArray, List.getElem?_append_left (by simpa using hiv), List.getElem?_map, h1]
    rfl
  · rw [List.getElem?_append_right (by simpa using Nat.not_lt.mp hiv)] at hi
    have := List.mem_of_getElem? hi
    simp at this
/-- the judgement: from every heap that holds the world w, with the locals L: the machine at pc with the stack st comes to Q -/
def G (p : Program) (l : Launch) (e : Env) (R : Room) (s : State) (m : MethodId) (args : Array Value) (below : List Frame) (meth : Method) (c : Code) (D : va_G) (cl : List vw_C) (A : Nat → Prop) (k n : Nat) (Q : State → Prop) (w : va_W) (L : List (Option Value)) (pc : Nat) (st : List Value) : Prop :=
  ∀ (H : Heap) (locs : List Loc) (ls : Array Slot), va_P D cl w H → va_S A s.heap H locs → lq ls L → W p l e R s m args below meth c H locs k n Q (F0 m pc ls st)
section GR
variable {p : Program} {l : Launch} {e : Env} {R : Room} {s : State} {m : MethodId} {args : Array Value} {below : List Frame} {meth : Method} {c : Code} {D : va_G} {cl : List vw_C} {A : Nat → Prop} {k n : Nat} {Q : State → Prop} {w : va_W} {L : List (Option Value)} {pc : Nat} {st : List Value} {cc : ByteArray}
theorem g_iconst (hx : p.tables.exec = Jvm.exec) (hb : c.code = cc) {i : Int} {v : Int32} (hd : decode cc pc = .ok (.iconst i, 1)) (hv : Int32.ofInt i = v) (kk : G p l e R s m args below meth c D cl A k n Q w L (pc + 1) (.int v :: st)) : G p l e R s m args below meth c D cl A k n Q w L pc (st) :=
  fun H locs ls hP hS hl => lv_iconst hx hb hd hv (kk H locs ls hP hS hl)
theorem g_bipush (hx : p.tables.exec = Jvm.exec) (hb : c.code = cc) {i : Int} {v : Int32} (hd : decode cc pc = .ok (.bipush i, 2)) (hv : (Int8.ofInt i).toInt32 = v) (kk : G p l e R s m args below meth c D cl A k n Q w L (pc + 2) (.int v :: st)) : G p l e R s m args below meth c D cl A k n Q w L pc (st) :=
  fun H locs ls hP hS hl => lv_bipush hx hb hd hv (kk H locs ls hP hS hl)
theorem g_sipush (hx : p.tables.exec = Jvm.exec) (hb : c.code = cc) {i : Int} {v : Int32} (hd : decode cc pc = .ok (.sipush i, 3)) (hv : (Int16.ofInt i).toInt32 = v) (kk : G p l e R s m args below meth c D cl A k n Q w L (pc + 3) (.int v :: st)) : G p l e R s m args below meth c D cl A k n Q w L pc (st) :=
  fun H locs ls hP hS hl => lv_sipush hx hb hd hv (kk H locs ls hP hS hl)
theorem g_ldc (hx : p.tables.exec = Jvm.exec) (hb : c.code = cc) {own : String} {index : Nat} {v : Int32} (hd : decode cc pc = .ok (.ldc index, 2)) (hown : s.vm.findClass own = some m.cls) (hc : (Jvm.Cond.constant own index v).before args s = true) (kk : G p l e R s m args below meth c D cl A k n Q w L (pc + 2) (.int v :: st)) : G p l e R s m args below meth c D cl A k n Q w L pc (st) :=
  fun H locs ls hP hS hl => lv_ldc hx hb hown hc hd (kk H locs ls hP hS hl)
theorem g_iload_n (hx : p.tables.exec = Jvm.exec) (hb : c.code = cc) {j : Fin 4} {i : Nat} {x : Int32} (hd : decode cc pc = .ok (.iload_n j, 1)) (hi : (j : Nat) = i) (hL : L[i]? = some (some (.int x))) (kk : G p l e R s m args below meth c D cl A k n Q w L (pc + 1) (.int x :: st)) : G p l e R s m args below meth c D cl A k n Q w L pc (st) :=
  fun H locs ls hP hS hl => lv_iload_n hx hb hd hi (hl.at hL) (kk H locs ls hP hS hl)
theorem g_iload (hx : p.tables.exec = Jvm.exec) (hb : c.code = cc) {i : Nat} {x : Int32} (hd : decode cc pc = .ok (.iload i, 2)) (hL : L[i]? = some (some (.int x))) (kk : G p l e R s m args below meth c D cl A k n Q w L (pc + 2) (.int x :: st)) : G p l e R s m args below meth c D cl A k n Q w L pc (st) :=
  fun H locs ls hP hS hl => lv_iload hx hb hd (hl.at hL) (kk H locs ls hP hS hl)
theorem g_aload_n (hx : p.tables.exec = Jvm.exec) (hb : c.code = cc) {j : Fin 4} {i : Nat} {x : Nat} (hd : decode cc pc = .ok (.aload_n j, 1)) (hi : (j : Nat) = i) (hL : L[i]? = some (some (.ref x))) (kk : G p l e R s m args below meth c D cl A k n Q w L (pc + 1) (.ref x :: st)) : G p l e R s m args below meth c D cl A k n Q w L pc (st) :=
  fun H locs ls hP hS hl => lv_aload_n hx hb hd hi (hl.at hL) (kk H locs ls hP hS hl)
theorem g_aload (hx : p.tables.exec = Jvm.exec) (hb : c.code = cc) {i : Nat} {x : Nat} (hd : decode cc pc = .ok (.aload i, 2)) (hL : L[i]? = some (some (.ref x))) (kk : G p l e R s m args below meth c D cl A k n Q w L (pc + 2) (.ref x :: st)) : G p l e R s m args below meth c D cl A k n Q w L pc (st) :=
  fun H locs ls hP hS hl => lv_aload hx hb hd (hl.at hL) (kk H locs ls hP hS hl)
theorem g_istore_n (hx : p.tables.exec = Jvm.exec) (hb : c.code = cc) {j : Fin 4} {i : Nat} {x : Int32} {L' : List (Option Value)} (hd : decode cc pc = .ok (.istore_n j, 1)) (hi : (j : Nat) = i) (hn : i < L.length) (hL : L.set i (some (.int x)) = L') (kk : G p l e R s m args below meth c D cl A k n Q w L' (pc + 1) (st)) : G p l e R s m args below meth c D cl A k n Q w L pc (.int x :: st) :=
  fun H locs ls hP hS hl => lv_istore_n hx hb hd hi hl.has hn rfl (fun ls' h' => kk H locs ls' hP hS (hL ▸ hl.set hn rfl h'))
theorem g_istore (hx : p.tables.exec = Jvm.exec) (hb : c.code = cc) {i : Nat} {x : Int32} {L' : List (Option Value)} (hd : decode cc pc = .ok (.istore i, 2)) (hn : i < L.length) (hL : L.set i (some (.int x)) = L') (kk : G p l e R s m args below meth c D cl A k n Q w L' (pc + 2) (st)) : G p l e R s m args below meth c D cl A k n Q w L pc (.int x :: st) :=
  fun H locs ls hP hS hl => lv_istore hx hb hd hl.has hn rfl (fun ls' h' => kk H locs ls' hP hS (hL ▸ hl.set hn rfl h'))
theorem g_astore_n (hx : p.tables.exec = Jvm.exec) (hb : c.code = cc) {j : Fin 4} {i : Nat} {x : Nat} {L' : List (Option Value)} (hd : decode cc pc = .ok (.astore_n j, 1)) (hi : (j : Nat) = i) (hn : i < L.length) (hL : L.set i (some (.ref x)) = L') (kk : G p l e R s m args below meth c D cl A k n Q w L' (pc + 1) (st)) : G p l e R s m args below meth c D cl A k n Q w L pc (.ref x :: st) :=
  fun H locs ls hP hS hl => lv_astore_n hx hb hd hi hl.has hn rfl (fun ls' h' => kk H locs ls' hP hS (hL ▸ hl.set hn rfl h'))
theorem g_astore (hx : p.tables.exec = Jvm.exec) (hb : c.code = cc) {i : Nat} {x : Nat} {L' : List (Option Value)} (hd : decode cc pc = .ok (.astore i, 2)) (hn : i < L.length) (hL : L.set i (some (.ref x)) = L') (kk : G p l e R s m args below meth c D cl A k n Q w L' (pc + 2) (st)) : G p l e R s m args below meth c D cl A k n Q w L pc (.ref x :: st) :=
  fun H locs ls hP hS hl => lv_astore hx hb hd hl.has hn rfl (fun ls' h' => kk H locs ls' hP hS (hL ▸ hl.set hn rfl h'))
theorem g_iinc (hx : p.tables.exec = Jvm.exec) (hb : c.code = cc) {i : Nat} {d : Int} {x v : Int32} {L' : List (Option Value)} (hd : decode cc pc = .ok (.iinc i d, 3)) (hi : L[i]? = some (some (.int x))) (hv : x + Int32.ofInt d = v) (hL : L.set i (some (.int v)) = L') (kk : G p l e R s m args below meth c D cl A k n Q w L' (pc + 3) st) : G p l e R s m args below meth c D cl A k n Q w L pc st := by
  intro H locs ls hP hS hl
  have hn : i < L.length := (List.getElem?_eq_some_iff.mp hi).1
  obtain ⟨q, hq⟩ := List.getElem?_of_mem ((lq_en_mem L 0 i (.int x)).mpr ⟨i, by omega, hi⟩)
  exact lv_iinc hx hb hd hl.has hq hv hn rfl (fun ls' h' => kk H locs ls' hP hS (hL ▸ hl.set hn rfl h'))
theorem g_iadd (hx : p.tables.exec = Jvm.exec) (hb : c.code = cc) {x y : Int32} (hd : decode cc pc = .ok (.iadd, 1))  (kk : G p l e R s m args below meth c D cl A k n Q w L (pc + 1) (.int (x + y) :: st)) : G p l e R s m args below meth c D cl A k n Q w L pc (.int y :: .int x :: st) :=
  fun H locs ls hP hS hl => lv_iadd hx hb hd (kk H locs ls hP hS hl)
theorem g_isub (hx : p.tables.exec = Jvm.exec) (hb : c.code = cc) {x y : Int32} (hd : decode cc pc = .ok (.isub, 1))  (kk : G p l e R s m args below meth c D cl A k n Q w L (pc + 1) (.int (x - y) :: st)) : G p l e R s m args below meth c D cl A k n Q w L pc (.int y :: .int x :: st) :=
  fun H locs ls hP hS hl => lv_isub hx hb hd (kk H locs ls hP hS hl)
theorem g_imul (hx : p.tables.exec = Jvm.exec) (hb : c.code = cc) {x y : Int32} (hd : decode cc pc = .ok (.imul, 1))  (kk : G p l e R s m args below meth c D cl A k n Q w L (pc + 1) (.int (x * y) :: st)) : G p l e R s m args below meth c D cl A k n Q w L pc (.int y :: .int x :: st) :=
  fun H locs ls hP hS hl => lv_imul hx hb hd (kk H locs ls hP hS hl)
theorem g_iand (hx : p.tables.exec = Jvm.exec) (hb : c.code = cc) {x y : Int32} (hd : decode cc pc = .ok (.iand, 1))  (kk : G p l e R s m args below meth c D cl A k n Q w L (pc + 1) (.int (x &&& y) :: st)) : G p l e R s m args below meth c D cl A k n Q w L pc (.int y :: .int x :: st) :=
  fun H locs ls hP hS hl => lv_iand hx hb hd (kk H locs ls hP hS hl)
theorem g_ior (hx : p.tables.exec = Jvm.exec) (hb : c.code = cc) {x y : Int32} (hd : decode cc pc = .ok (.ior, 1))  (kk : G p l e R s m args below meth c D cl A k n Q w L (pc + 1) (.int (x ||| y) :: st)) : G p l e R s m args below meth c D cl A k n Q w L pc (.int y :: .int x :: st) :=
  fun H locs ls hP hS hl => lv_ior hx hb hd (kk H locs ls hP hS hl)
theorem g_ixor (hx : p.tables.exec = Jvm.exec) (hb : c.code = cc) {x y : Int32} (hd : decode cc pc = .ok (.ixor, 1))  (kk : G p l e R s m args below meth c D cl A k n Q w L (pc + 1) (.int (x ^^^ y) :: st)) : G p l e R s m args below meth c D cl A k n Q w L pc (.int y :: .int x :: st) :=
  fun H locs ls hP hS hl => lv_ixor hx hb hd (kk H locs ls hP hS hl)
theorem g_ishl (hx : p.tables.exec = Jvm.exec) (hb : c.code = cc) {x y : Int32} (hd : decode cc pc = .ok (.ishl, 1))  (kk : G p l e R s m args below meth c D cl A k n Q w L (pc + 1) (.int (x <<< (y &&& 31)) :: st)) : G p l e R s m args below meth c D cl A k n Q w L pc (.int y :: .int x :: st) :=
  fun H locs ls hP hS hl => lv_ishl hx hb hd (kk H locs ls hP hS hl)
theorem g_ishr (hx : p.tables.exec = Jvm.exec) (hb : c.code = cc) {x y : Int32} (hd : decode cc pc = .ok (.ishr, 1))  (kk : G p l e R s m args below meth c D cl A k n Q w L (pc + 1) (.int (x >>> (y &&& 31)) :: st)) : G p l e R s m args below meth c D cl A k n Q w L pc (.int y :: .int x :: st) :=
  fun H locs ls hP hS hl => lv_ishr hx hb hd (kk H locs ls hP hS hl)
theorem g_idiv (hx : p.tables.exec = Jvm.exec) (hb : c.code = cc) {x y : Int32} (hd : decode cc pc = .ok (.idiv, 1)) (hne : ¬ y = 0) (kk : G p l e R s m args below meth c D cl A k n Q w L (pc + 1) (.int (x / y) :: st)) : G p l e R s m args below meth c D cl A k n Q w L pc (.int y :: .int x :: st) :=
  fun H locs ls hP hS hl => lv_idiv hx hb hd hne (kk H locs ls hP hS hl)
theorem g_irem (hx : p.tables.exec = Jvm.exec) (hb : c.code = cc) {x y : Int32} (hd : decode cc pc = .ok (.irem, 1)) (hne : ¬ y = 0) (kk : G p l e R s m args below meth c D cl A k n Q w L (pc + 1) (.int (x - x / y * y) :: st)) : G p l e R s m args below meth c D cl A k n Q w L pc (.int y :: .int x :: st) :=
  fun H locs ls hP hS hl => lv_irem hx hb hd hne (kk H locs ls hP hS hl)
theorem g_iushr (hx : p.tables.exec = Jvm.exec) (hb : c.code = cc) {x y v : Int32} (hd : decode cc pc = .ok (.iushr, 1)) (hv : (x.toUInt32 >>> (y.toUInt32 &&& Int32.toUInt32 31)).toInt32 = v) (kk : G p l e R s m args below meth c D cl A k n Q w L (pc + 1) (.int v :: st)) : G p l e R s m args below meth c D cl A k n Q w L pc (.int y :: .int x :: st) :=
  fun H locs ls hP hS hl => lv_iushr hx hb hd hv (kk H locs ls hP hS hl)
theorem g_dup (hx : p.tables.exec = Jvm.exec) (hb : c.code = cc) {va : Value} (hd : decode cc pc = .ok (.dup, 1)) (hva : va.category = 1) (kk : G p l e R s m args below meth c D cl A k n Q w L (pc + 1) (va :: va :: st)) : G p l e R s m args below meth c D cl A k n Q w L pc (va :: st) :=
  fun H locs ls hP hS hl => lv_dup hx hb hd hva (kk H locs ls hP hS hl)
theorem g_pop (hx : p.tables.exec = Jvm.exec) (hb : c.code = cc) {va : Value} (hd : decode cc pc = .ok (.pop, 1)) (hva : va.category = 1) (kk : G p l e R s m args below meth c D cl A k n Q w L (pc + 1) (st)) : G p l e R s m args below meth c D cl A k n Q w L pc (va :: st) :=
  fun H locs ls hP hS hl => lv_pop hx hb hd hva (kk H locs ls hP hS hl)
theorem g_dup_x1 (hx : p.tables.exec = Jvm.exec) (hb : c.code = cc) {va vb : Value} (hd : decode cc pc = .ok (.dup_x1, 1)) (hva : va.category = 1) (hvb : vb.category = 1) (kk : G p l e R s m args below meth c D cl A k n Q w L (pc + 1) (va :: vb :: va :: st)) : G p l e R s m args below meth c D cl A k n Q w L pc (va :: vb :: st) :=
  fun H locs ls hP hS hl => lv_dup_x1 hx hb hd hva hvb (kk H locs ls hP hS hl)
theorem g_dup2 (hx : p.tables.exec = Jvm.exec) (hb : c.code = cc) {va vb : Value} (hd : decode cc pc = .ok (.dup2, 1)) (hva : va.category = 1) (hvb : vb.category = 1) (kk : G p l e R s m args below meth c D cl A k n Q w L (pc + 1) (va :: vb :: va :: vb :: st)) : G p l e R s m args below meth c D cl A k n Q w L pc (va :: vb :: st) :=
  fun H locs ls hP hS hl => lv_dup2_11 hx hb hd hva hvb (kk H locs ls hP hS hl)
theorem g_dup_x2 (hx : p.tables.exec = Jvm.exec) (hb : c.code = cc) {va vb vd : Value} (hd : decode cc pc = .ok (.dup_x2, 1)) (hva : va.category = 1) (hvb : vb.category = 1) (hvd : vd.category = 1) (kk : G p l e R s m args below meth c D cl A k n Q w L (pc + 1) (va :: vb :: vd :: va :: st)) : G p l e R s m args below meth c D cl A k n Q w L pc (va :: vb :: vd :: st) :=
  fun H locs ls hP hS hl => lv_dup_x2 hx hb hd hva hvb hvd (kk H locs ls hP hS hl)
theorem g_icmp_eq (hx : p.tables.exec = Jvm.exec) (hb : c.code = cc) {x y : Int32} {off : Int} {tgt : Nat} (hd : decode cc pc = .ok (.if_icmp .eq off, 3)) (ht : (pc : Int) + off = (tgt : Int)) (kt : x = y → G p l e R s m args below meth c D cl A k n Q w L tgt st) (kf : ¬ x = y → G p l e R s m args below meth c D cl A k n Q w L (pc + 3) st) : G p l e R s m args below meth c D cl A k n Q w L pc (.int y :: .int x :: st) :=
  fun H locs ls hP hS hl => lv_icmp_eq hx hb hd ht (fun h => kt h H locs ls hP hS hl) (fun h => kf h H locs ls hP hS hl)
theorem g_if_eq (hx : p.tables.exec = Jvm.exec) (hb : c.code = cc) {x : Int32} {off : Int} {tgt : Nat} (hd : decode cc pc = .ok (.ifCond .eq off, 3)) (ht : (pc : Int) + off = (tgt : Int)) (kt : x = 0 → G p l e R s m args below meth c D cl A k n Q w L tgt st) (kf : ¬ x = 0 → G p l e R s m args below meth c D cl A k n Q w L (pc + 3) st) : G p l e R s m args below meth c D cl A k n Q w L pc (.int x :: st) :=
  fun H locs ls hP hS hl => lv_if_eq hx hb hd ht (fun h => kt h H locs ls hP hS hl) (fun h => kf h H locs ls hP hS hl)
theorem g_icmp_ne (hx : p.tables.exec = Jvm.exec) (hb : c.code = cc) {x y : Int32} {off : Int} {tgt : Nat} (hd : decode cc pc = .ok (.if_icmp .ne off, 3)) (ht : (pc : Int) + off = (tgt : Int)) (kt : ¬ x = y → G p l e R s m args below meth c D cl A k n Q w L tgt st) (kf : x = y → G p l e R s m args below meth c D cl A k n Q w L (pc + 3) st) : G p l e R s m args below meth c D cl A k n Q w L pc (.int y :: .int x :: st) :=
  fun H locs ls hP hS hl => lv_icmp_ne hx hb hd ht (fun h => kt h H locs ls hP hS hl) (fun h => kf h H locs ls hP hS hl)
theorem g_if_ne (hx : p.tables.exec = Jvm.exec) (hb : c.code = cc) {x : Int32} {off : Int} {tgt : Nat} (hd : decode cc pc = .ok (.ifCond .ne off, 3)) (ht : (pc : Int) + off = (tgt : Int)) (kt : ¬ x = 0 → G p l e R s m args below meth c D cl A k n Q w L tgt st) (kf : x = 0 → G p l e R s m args below meth c D cl A k n Q w L (pc + 3) st) : G p l e R s m args below meth c D cl A k n Q w L pc (.int x :: st) :=
  fun H locs ls hP hS hl => lv_if_ne hx hb hd ht (fun h => kt h H locs ls hP hS hl) (fun h => kf h H locs ls hP hS hl)
theorem g_icmp_lt (hx : p.tables.exec = Jvm.exec) (hb : c.code = cc) {x y : Int32} {off : Int} {tgt : Nat} (hd : decode cc pc = .ok (.if_icmp .lt off, 3)) (ht : (pc : Int) + off = (tgt : Int)) (kt : x < y → G p l e R s m args below meth c D cl A k n Q w L tgt st) (kf : ¬ x < y → G p l e R s m args below meth c D cl A k n Q w L (pc + 3) st) : G p l e R s m args below meth c D cl A k n Q w L pc (.int y :: .int x :: st) :=
  fun H locs ls hP hS hl => lv_icmp_lt hx hb hd ht (fun h => kt h H locs ls hP hS hl) (fun h => kf h H locs ls hP hS hl)
theorem g_if_lt (hx : p.tables.exec = Jvm.exec) (hb : c.code = cc) {x : Int32} {off : Int} {tgt : Nat} (hd : decode cc pc = .ok (.ifCond .lt off, 3)) (ht : (pc : Int) + off = (tgt : Int)) (kt : x < 0 → G p l e R s m args below meth c D cl A k n Q w L tgt st) (kf : ¬ x < 0 → G p l e R s m args below meth c D cl A k n Q w L (pc + 3) st) : G p l e R s m args below meth c D cl A k n Q w L pc (.int x :: st) :=
  fun H locs ls hP hS hl => lv_if_lt hx hb hd ht (fun h => kt h H locs ls hP hS hl) (fun h => kf h H locs ls hP hS hl)
theorem g_icmp_ge (hx : p.tables.exec = Jvm.exec) (hb : c.code = cc) {x y : Int32} {off : Int} {tgt : Nat} (hd : decode cc pc = .ok (.if_icmp .ge off, 3)) (ht : (pc : Int) + off = (tgt : Int)) (kt : y ≤ x → G p l e R s m args below meth c D cl A k n Q w L tgt st) (kf : ¬ y ≤ x → G p l e R s m args below meth c D cl A k n Q w L (pc + 3) st) : G p l e R s m args below meth c D cl A k n Q w L pc (.int y :: .int x :: st) :=
  fun H locs ls hP hS hl => lv_icmp_ge hx hb hd ht (fun h => kt h H locs ls hP hS hl) (fun h => kf h H locs ls hP hS hl)
theorem g_if_ge (hx : p.tables.exec = Jvm.exec) (hb : c.code = cc) {x : Int32} {off : Int} {tgt : Nat} (hd : decode cc pc = .ok (.ifCond .ge off, 3)) (ht : (pc : Int) + off = (tgt : Int)) (kt : 0 ≤ x → G p l e R s m args below meth c D cl A k n Q w L tgt st) (kf : ¬ 0 ≤ x → G p l e R s m args below meth c D cl A k n Q w L (pc + 3) st) : G p l e R s m args below meth c D cl A k n Q w L pc (.int x :: st) :=
  fun H locs ls hP hS hl => lv_if_ge hx hb hd ht (fun h => kt h H locs ls hP hS hl) (fun h => kf h H locs ls hP hS hl)
theorem g_icmp_gt (hx : p.tables.exec = Jvm.exec) (hb : c.code = cc) {x y : Int32} {off : Int} {tgt : Nat} (hd : decode cc pc = .ok (.if_icmp .gt off, 3)) (ht : (pc : Int) + off = (tgt : Int)) (kt : y < x → G p l e R s m args below meth c D cl A k n Q w L tgt st) (kf : ¬ y < x → G p l e R s m args below meth c D cl A k n Q w L (pc + 3) st) : G p l e R s m args below meth c D cl A k n Q w L pc (.int y :: .int x :: st) :=
  fun H locs ls hP hS hl => lv_icmp_gt hx hb hd ht (fun h => kt h H locs ls hP hS hl) (fun h => kf h H locs ls hP hS hl)
theorem g_if_gt (hx : p.tables.exec = Jvm.exec) (hb : c.code = cc) {x : Int32} {off : Int} {tgt : Nat} (hd : decode cc pc = .ok (.ifCond .gt off, 3)) (ht : (pc : Int) + off = (tgt : Int)) (kt : 0 < x → G p l e R s m args below meth c D cl A k n Q w L tgt st) (kf : ¬ 0 < x → G p l e R s m args below meth c D cl A k n Q w L (pc + 3) st) : G p l e R s m args below meth c D cl A k n Q w L pc (.int x :: st) :=
  fun H locs ls hP hS hl => lv_if_gt hx hb hd ht (fun h => kt h H locs ls hP hS hl) (fun h => kf h H locs ls hP hS hl)
theorem g_icmp_le (hx : p.tables.exec = Jvm.exec) (hb : c.code = cc) {x y : Int32} {off : Int} {tgt : Nat} (hd : decode cc pc = .ok (.if_icmp .le off, 3)) (ht : (pc : Int) + off = (tgt : Int)) (kt : x ≤ y → G p l e R s m args below meth c D cl A k n Q w L tgt st) (kf : ¬ x ≤ y → G p l e R s m args below meth c D cl A k n Q w L (pc + 3) st) : G p l e R s m args below meth c D cl A k n Q w L pc (.int y :: .int x :: st) :=
  fun H locs ls hP hS hl => lv_icmp_le hx hb hd ht (fun h => kt h H locs ls hP hS hl) (fun h => kf h H locs ls hP hS hl)
theorem g_if_le (hx : p.tables.exec = Jvm.exec) (hb : c.code = cc) {x : Int32} {off : Int} {tgt : Nat} (hd : decode cc pc = .ok (.ifCond .le off, 3)) (ht : (pc : Int) + off = (tgt : Int)) (kt : x ≤ 0 → G p l e R s m args below meth c D cl A k n Q w L tgt st) (kf : ¬ x ≤ 0 → G p l e R s m args below meth c D cl A k n Q w L (pc + 3) st) : G p l e R s m args below meth c D cl A k n Q w L pc (.int x :: st) :=
  fun H locs ls hP hS hl => lv_if_le hx hb hd ht (fun h => kt h H locs ls hP hS hl) (fun h => kf h H locs ls hP hS hl)
theorem g_goto (hx : p.tables.exec = Jvm.exec) (hb : c.code = cc) {off : Int} {tgt : Nat} (hd : decode cc pc = .ok (.goto off, 3)) (ht : (pc : Int) + off = (tgt : Int)) (kk : G p l e R s m args below meth c D cl A k n Q w L tgt st) : G p l e R s m args below meth c D cl A k n Q w L pc st :=
  fun H locs ls hP hS hl => lv_goto hx hb hd ht (kk H locs ls hP hS hl)
theorem g_tableIn (hx : p.tables.exec = Jvm.exec) (hb : c.code = cc) {dflt lo hi : Int} {offs : Array Int} {len : Nat} {x : Int32} {off : Int} {tgt : Nat} (hd : decode cc pc = .ok (.tableswitch dflt lo hi offs, len)) (h1 : ¬ x.toInt < lo) (h2 : ¬ hi < x.toInt) (ho : offs[(x.toInt - lo).toNat]? = some off) (ht : (pc : Int) + off = (tgt : Int)) (kk : G p l e R s m args below meth c D cl A k n Q w L tgt st) : G p l e R s m args below meth c D cl A k n Q w L pc (.int x :: st) :=
  fun H locs ls hP hS hl => lv_tableIn hx hb hd h1 h2 ho ht (kk H locs ls hP hS hl)
theorem g_tableOut (hx : p.tables.exec = Jvm.exec) (hb : c.code = cc) {dflt lo hi : Int} {offs : Array Int} {len : Nat} {x : Int32} {tgt : Nat} (hd : decode cc pc = .ok (.tableswitch dflt lo hi offs, len)) (h : x.toInt < lo ∨ hi < x.toInt) (ht : (pc : Int) + dflt = (tgt : Int)) (kk : G p l e R s m args below meth c D cl A k n Q w L tgt st) : G p l e R s m args below meth c D cl A k n Q w L pc (.int x :: st) :=
  fun H locs ls hP hS hl => lv_tableOut hx hb hd h ht (kk H locs ls hP hS hl)
theorem g_val {x y : Int32} (h : x = y) (kk : G p l e R s m args below meth c D cl A k n Q w L pc (.int y :: st)) : G p l e R s m args below meth c D cl A k n Q w L pc (.int x :: st) := h ▸ kk
theorem g_val2 {z : Value} {x y : Int32} (h : x = y) (kk : G p l e R s m args below meth c D cl A k n Q w L pc (z :: .int y :: st)) : G p l e R s m args below meth c D cl A k n Q w L pc (z :: .int x :: st) := h ▸ kk
theorem g_w {w' : va_W} (h : w = w') (kk : G p l e R s m args below meth c D cl A k n Q w' L pc st) : G p l e R s m args below meth c D cl A k n Q w L pc st := h ▸ kk
theorem q_lt0 {a : Nat} (h : a < 2 ^ 32) : nI a < 0 ↔ 2 ^ 31 ≤ a := by
  have e : (nI a).toInt = if a < 2 ^ 31 then (a : Int) else (a : Int) - 2 ^ 32 := by
    unfold nI
    rw [Int32.toInt_ofNat']
    simp only [Int.bmod, Int32.size]
    split <;> split <;> omega
  rw [Int32.lt_iff_toInt_lt, e, show (0 : Int32).toInt = 0 from rfl]
  split <;> omega
theorem q_and (a b : Nat) : nI a &&& nI b = nI (a &&& b) := by
  apply Int32.toBitVec_inj.mp
  unfold nI
  simp [Int32.toBitVec_ofNat', BitVec.ofNat_and]
theorem q_or (a b : Nat) : nI a ||| nI b = nI (a ||| b) := by
  apply Int32.toBitVec_inj.mp
  unfold nI
  simp [Int32.toBitVec_ofNat', BitVec.ofNat_or]
theorem q_s31 : ∀ n, n < 32 → nI n &&& 31 = nI n := by decide +kernel
theorem q_sm : ∀ n, n < 32 → ((nI n &&& 31).toBitVec.smod 32).toNat = n := by decide +kernel
theorem q_shl {a n : Nat} (hn : n < 32) (h : a * 2 ^ n < 2 ^ 32) : nI a <<< (nI n &&& 31) = nI (a * 2 ^ n) := pk_shlN _ n (q_sm n hn) h
theorem q_shr {a n : Nat} (hn : n < 32) (h : a < 2 ^ 31) : nI a >>> (nI n &&& 31) = nI (a / 2 ^ n) := pk_shrN h _ n (q_sm n hn)
theorem q_of (x : Int32) : ∃ n : Nat, n < 2 ^ 32 ∧ x = nI n := by
  refine ⟨x.toBitVec.toNat, x.toBitVec.isLt, ?_⟩
  apply Int32.toBitVec_inj.mp
  unfold nI
  simp [Int32.toBitVec_ofNat']
theorem n_iadd (hx : p.tables.exec = Jvm.exec) (hb : c.code = cc) {a b : Nat} (hd : decode cc pc = .ok (.iadd, 1))  (kk : G p l e R s m args below meth c D cl A k n Q w L (pc + 1) (.int (nI (a + b)) :: st)) : G p l e R s m args below meth c D cl A k n Q w L pc (.int (nI b) :: .int (nI a) :: st) :=
  g_iadd hx hb hd  (g_val (nI_add a b) kk)
theorem n_isub (hx : p.tables.exec = Jvm.exec) (hb : c.code = cc) {a b : Nat} (hd : decode cc pc = .ok (.isub, 1)) (h : b ≤ a) (kk : G p l e R s m args below meth c D cl A k n Q w L (pc + 1) (.int (nI (a - b)) :: st)) : G p l e R s m args below meth c D cl A k n Q w L pc (.int (nI b) :: .int (nI a) :: st) :=
  g_isub hx hb hd  (g_val (pk_sub h) kk)
theorem n_imul (hx : p.tables.exec = Jvm.exec) (hb : c.code = cc) {a b : Nat} (hd : decode cc pc = .ok (.imul, 1))  (kk : G p l e R s m args below meth c D cl A k n Q w L (pc + 1) (.int (nI (a * b)) :: st)) : G p l e R s m args below meth c D cl A k n Q w L pc (.int (nI b) :: .int (nI a) :: st) :=
  g_imul hx hb hd  (g_val (pk_mul a b) kk)
theorem n_iand (hx : p.tables.exec = Jvm.exec) (hb : c.code = cc) {a b : Nat} (hd : decode cc pc = .ok (.iand, 1))  (kk : G p l e R s m args below meth c D cl A k n Q w L (pc + 1) (.int (nI (a &&& b)) :: st)) : G p l e R s m args below meth c D cl A k n Q w L pc (.int (nI b) :: .int (nI a) :: st) :=
  g_iand hx hb hd  (g_val (q_and a b) kk)
theorem n_ior (hx : p.tables.exec = Jvm.exec) (hb : c.code = cc) {a b : Nat} (hd : decode cc pc = .ok (.ior, 1))  (kk : G p l e R s m args below meth c D cl A k n Q w L (pc + 1) (.int (nI (a ||| b)) :: st)) : G p l e R s m args below meth c D cl A k n Q w L pc (.int (nI b) :: .int (nI a) :: st) :=
  g_ior hx hb hd  (g_val (q_or a b) kk)
theorem n_ishl (hx : p.tables.exec = Jvm.exec) (hb : c.code = cc) {a b : Nat} (hd : decode cc pc = .ok (.ishl, 1)) (h : b < 32) (h2 : a * 2 ^ b < 2 ^ 32) (kk : G p l e R s m args below meth c D cl A k n Q w L (pc + 1) (.int (nI (a * 2 ^ b)) :: st)) : G p l e R s m args below meth c D cl A k n Q w L pc (.int (nI b) :: .int (nI a) :: st) :=
  g_ishl hx hb hd  (g_val (q_shl h h2) kk)
theorem n_ishr (hx : p.tables.exec = Jvm.exec) (hb : c.code = cc) {a b : Nat} (hd : decode cc pc = .ok (.ishr, 1)) (h : b < 32) (h2 : a < 2 ^ 31) (kk : G p l e R s m args below meth c D cl A k n Q w L (pc + 1) (.int (nI (a / 2 ^ b)) :: st)) : G p l e R s m args below meth c D cl A k n Q w L pc (.int (nI b) :: .int (nI a) :: st) :=
  g_ishr hx hb hd  (g_val (q_shr h h2) kk)
theorem n_idiv (hx : p.tables.exec = Jvm.exec) (hb : c.code = cc) {a b : Nat} (hd : decode cc pc = .ok (.idiv, 1)) (ha : a < 2 ^ 31) (h0 : 0 < b) (h1 : b < 2 ^ 31) (kk : G p l e R s m args below meth c D cl A k n Q w L (pc + 1) (.int (nI (a / b)) :: st)) : G p l e R s m args below meth c D cl A k n Q w L pc (.int (nI b) :: .int (nI a) :: st) :=
  g_idiv hx hb hd (nI_ne0 h0 h1) (g_val (pk_div ha h0 h1) kk)
theorem n_irem (hx : p.tables.exec = Jvm.exec) (hb : c.code = cc) {a b : Nat} (hd : decode cc pc = .ok (.irem, 1)) (ha : a < 2 ^ 31) (h0 : 0 < b) (h1 : b < 2 ^ 31) (kk : G p l e R s m args below meth c D cl A k n Q w L (pc + 1) (.int (nI (a % b)) :: st)) : G p l e R s m args below meth c D cl A k n Q w L pc (.int (nI b) :: .int (nI a) :: st) :=
  g_irem hx hb hd (nI_ne0 h0 h1) (g_val (pk_rem ha h0 h1) kk)
theorem n_iinc (hx : p.tables.exec = Jvm.exec) (hb : c.code = cc) {i : Nat} {x : Nat} {L' : List (Option Value)} (hd : decode cc pc = .ok (.iinc i 1, 3)) (hi : L[i]? = some (some (.int (nI x)))) (hL : L.set i (some (.int (nI (x + 1)))) = L') (kk : G p l e R s m args below meth c D cl A k n Q w L' (pc + 3) st) : G p l e R s m args below meth c D cl A k n Q w L pc st :=
  g_iinc hx hb hd hi (nI_1 x) hL kk
theorem n_icmp_eq (hx : p.tables.exec = Jvm.exec) (hb : c.code = cc) {a b : Nat} {off : Int} {tgt : Nat} (hd : decode cc pc = .ok (.if_icmp .eq off, 3)) (ht : (pc : Int) + off = (tgt : Int)) (ha : a < 2 ^ 31) (hb2 : b < 2 ^ 31) (kt : a = b → G p l e R s m args below meth c D cl A k n Q w L tgt st) (kf : ¬ a = b → G p l e R s m args below meth c D cl A k n Q w L (pc + 3) st) : G p l e R s m args below meth c D cl A k n Q w L pc (.int (nI b) :: .int (nI a) :: st) :=
  g_icmp_eq hx hb hd ht (fun h => kt ((nI_eq ha hb2).mp h)) (fun h => kf (fun q => h ((nI_eq ha hb2).mpr q)))
theorem n_icmp_ne (hx : p.tables.exec = Jvm.exec) (hb : c.code = cc) {a b : Nat} {off : Int} {tgt : Nat} (hd : decode cc pc = .ok (.if_icmp .ne off, 3)) (ht : (pc : Int) + off = (tgt : Int)) (ha : a < 2 ^ 31) (hb2 : b < 2 ^ 31) (kt : ¬ a = b → G p l e R s m args below meth c D cl A k n Q w L tgt st) (kf : a = b → G p l e R s m args below meth c D cl A k n Q w L (pc + 3) st) : G p l e R s m args below meth c D cl A k n Q w L pc (.int (nI b) :: .int (nI a) :: st) :=
  g_icmp_ne hx hb hd ht (fun h => kt (fun q => h ((nI_eq ha hb2).mpr q))) (fun h => kf ((nI_eq ha hb2).mp h))
theorem n_icmp_lt (hx : p.tables.exec = Jvm.exec) (hb : c.code = cc) {a b : Nat} {off : Int} {tgt : Nat} (hd : decode cc pc = .ok (.if_icmp .lt off, 3)) (ht : (pc : Int) + off = (tgt : Int)) (ha : a < 2 ^ 31) (hb2 : b < 2 ^ 31) (kt : a < b → G p l e R s m args below meth c D cl A k n Q w L tgt st) (kf : b ≤ a → G p l e R s m args below meth c D cl A k n Q w L (pc + 3) st) : G p l e R s m args below meth c D cl A k n Q w L pc (.int (nI b) :: .int (nI a) :: st) :=
  g_icmp_lt hx hb hd ht (fun h => kt ((nI_ltI ha hb2).mp h)) (fun h => kf (Nat.not_lt.mp (fun q => h ((nI_ltI ha hb2).mpr q))))
theorem n_icmp_ge (hx : p.tables.exec = Jvm.exec) (hb : c.code = cc) {a b : Nat} {off : Int} {tgt : Nat} (hd : decode cc pc = .ok (.if_icmp .ge off, 3)) (ht : (pc : Int) + off = (tgt : Int)) (ha : a < 2 ^ 31) (hb2 : b < 2 ^ 31) (kt : b ≤ a → G p l e R s m args below meth c D cl A k n Q w L tgt st) (kf : a < b → G p l e R s m args below meth c D cl A k n Q w L (pc + 3) st) : G p l e R s m args below meth c D cl A k n Q w L pc (.int (nI b) :: .int (nI a) :: st) :=
  g_icmp_ge hx hb hd ht (fun h => kt ((nI_leI hb2 ha).mp h)) (fun h => kf (Nat.not_le.mp (fun q => h ((nI_leI hb2 ha).mpr q))))
theorem n_icmp_gt (hx : p.tables.exec = Jvm.exec) (hb : c.code = cc) {a b : Nat} {off : Int} {tgt : Nat} (hd : decode cc pc = .ok (.if_icmp .gt off, 3)) (ht : (pc : Int) + off = (tgt : Int)) (ha : a < 2 ^ 31) (hb2 : b < 2 ^ 31) (kt : b < a → G p l e R s m args below meth c D cl A k n Q w L tgt st) (kf : a ≤ b → G p l e R s m args below meth c D cl A k n Q w L (pc + 3) st) : G p l e R s m args below meth c D cl A k n Q w L pc (.int (nI b) :: .int (nI a) :: st) :=
  g_icmp_gt hx hb hd ht (fun h => kt ((nI_ltI hb2 ha).mp h)) (fun h => kf (Nat.not_lt.mp (fun q => h ((nI_ltI hb2 ha).mpr q))))
theorem n_icmp_le (hx : p.tables.exec = Jvm.exec) (hb : c.code = cc) {a b : Nat} {off : Int} {tgt : Nat} (hd : decode cc pc = .ok (.if_icmp .le off, 3)) (ht : (pc : Int) + off = (tgt : Int)) (ha : a < 2 ^ 31) (hb2 : b < 2 ^ 31) (kt : a ≤ b → G p l e R s m args below meth c D cl A k n Q w L tgt st) (kf : b < a → G p l e R s m args below meth c D cl A k n Q w L (pc + 3) st) : G p l e R s m args below meth c D cl A k n Q w L pc (.int (nI b) :: .int (nI a) :: st) :=
  g_icmp_le hx hb hd ht (fun h => kt ((nI_leI ha hb2).mp h)) (fun h => kf (Nat.not_le.mp (fun q => h ((nI_leI ha hb2).mpr q))))
theorem n_if_eq (hx : p.tables.exec = Jvm.exec) (hb : c.code = cc) {a : Nat} {off : Int} {tgt : Nat} (hd : decode cc pc = .ok (.ifCond .eq off, 3)) (ht : (pc : Int) + off = (tgt : Int)) (ha : a < 2 ^ 31) (kt : a = 0 → G p l e R s m args below meth c D cl A k n Q w L tgt st) (kf : ¬ a = 0 → G p l e R s m args below meth c D cl A k n Q w L (pc + 3) st) : G p l e R s m args below meth c D cl A k n Q w L pc (.int (nI a) :: st) :=
  g_if_eq hx hb hd ht (fun h => kt ((nI_eq (b := 0) ha (by decide)).mp h)) (fun h => kf (fun q => h ((nI_eq (b := 0) ha (by decide)).mpr q)))
theorem n_if_ne (hx : p.tables.exec = Jvm.exec) (hb : c.code = cc) {a : Nat} {off : Int} {tgt : Nat} (hd : decode cc pc = .ok (.ifCond .ne off, 3)) (ht : (pc : Int) + off = (tgt : Int)) (ha : a < 2 ^ 31) (kt : ¬ a = 0 → G p l e R s m args below meth c D cl A k n Q w L tgt st) (kf : a = 0 → G p l e R s m args below meth c D cl A k n Q w L (pc + 3) st) : G p l e R s m args below meth c D cl A k n Q w L pc (.int (nI a) :: st) :=
  g_if_ne hx hb hd ht (fun h => kt (fun q => h ((nI_eq (b := 0) ha (by decide)).mpr q))) (fun h => kf ((nI_eq (b := 0) ha (by decide)).mp h))
theorem g_get (hx : p.tables.exec = Jvm.exec) (hb : c.code = cc) {own C : String} {T : u_T} {N ci index : Nat} {Ts : List Cond} {tys : List (ClassId × FieldType)} {a q0 : Nat} {fs : List Value} {v : Value} (hts : ∀ w ∈ Ts, w.before args s = true) (hin : ∀ w ∈ u_ws C T N, w ∈ Ts) (hown : s.vm.findClass own = some m.cls) (hK : va_K D cl tys s) (he : w[q0]? = some (a, .inr (ci, fs))) (hc : cl[ci]? = some (C, T, N)) (f : Nat) (hf : f < N) (hlink : (Cond.fieldLink own index (T f).1 (T f).2.1 (T f).2.2.1).before args s = true) (hv : fs[f]? = some v) (hd : decode cc pc = .ok (.getfield index, 3))
    (kk : G p l e R s m args below meth c D cl A k n Q w L (pc + 3) (v :: st)) : G p l e R s m args below meth c D cl A k n Q w L pc (.ref a :: st) :=
  fun H locs ls hP hS hl => va_get hx hb hts hin hown hK hP q0 he hc f hf hlink (fun _ h => h) hv hd (kk H locs ls hP hS hl)
theorem g_getN (hx : p.tables.exec = Jvm.exec) (hb : c.code = cc) {own C host : String} {T : u_T} {N ci index : Nat} {Ts : List Cond} {tys : List (ClassId × FieldType)} {a q0 : Nat} {fs : List Value} {v : Value} (hts : ∀ w ∈ Ts, w.before args s = true) (hin : ∀ w ∈ u_ws C T N, w ∈ Ts) (hown : s.vm.findClass own = some m.cls) (hK : va_K D cl tys s) (he : w[q0]? = some (a, .inr (ci, fs))) (hc : cl[ci]? = some (C, T, N)) (f : Nat) (hf : f < N) (hlink : (Cond.fieldLinkNest own index (T f).1 (T f).2.1 (T f).2.2.1 host).before args s = true) (hv : fs[f]? = some v) (hd : decode cc pc = .ok (.getfield index, 3))
    (kk : G p l e R s m args below meth c D cl A k n Q w L (pc + 3) (v :: st)) : G p l e R s m args below meth c D cl A k n Q w L pc (.ref a :: st) :=
  fun H locs ls hP hS hl => va_getN hx hb hts hin hown hK hP q0 he hc f hf hlink (fun _ h => h) hv hd (kk H locs ls hP hS hl)
theorem g_put (hx : p.tables.exec = Jvm.exec) (hb : c.code = cc) {own C : String} {T : u_T} {N ci index : Nat} {Ts : List Cond} {tys : List (ClassId × FieldType)} {a q0 : Nat} {fs : List Value} {v : Value} {ty : FieldType} {w' : va_W} (hts : ∀ w ∈ Ts, w.before args s = true) (hin : ∀ w ∈ u_ws C T N, w ∈ Ts) (ty0 : Nat → FieldType) (hty : ∀ k, k < N → parseFieldDescriptor (T k).2.2.1 = some (ty0 k)) (hnm : ∀ a, a < N → ∀ b, b < N → a ≠ b → (T a).2.1 ≠ (T b).2.1) (hown : s.vm.findClass own = some m.cls) (hK : va_K D cl tys s) (hD : va_D A w) (he : w[q0]? = some (a, .inr (ci, fs))) (hc : cl[ci]? = some (C, T, N)) (f : Nat) (hf : f < N) (hlink : (Cond.fieldLink own index (T f).1 (T f).2.1 (T f).2.2.1).before args s = true) (hfin : (T f).2.2.2 = false) (hpd : parseFieldDescriptor (T f).2.2.1 = some ty) (hn : narrow ty v = v) (hfit : fits ty v = true) (hl2 : f < fs.length) (hd : decode cc pc = .ok (.putfield index, 3)) (hw : w.set q0 (a, .inr (ci, fs.set f v)) = w')
    (kk : G p l e R s m args below meth c D cl A k n Q w' L (pc + 3) st) : G p l e R s m args below meth c D cl A k n Q w L pc (v :: .ref a :: st) :=
  fun H locs ls hP hS hl => va_put hx hb hts hin ty0 hty hnm hown hK hP hD hS q0 he hc f hf hlink (fun _ h => h) hfin hpd hn hfit hl2 hd (fun H1 locs1 hP1 _ hS1 => kk H1 locs1 ls (hw ▸ hP1) hS1 hl)
theorem g_putN (hx : p.tables.exec = Jvm.exec) (hb : c.code = cc) {own C host : String} {T : u_T} {N ci index : Nat} {Ts : List Cond} {tys : List (ClassId × FieldType)} {a q0 : Nat} {fs : List Value} {v : Value} {ty : FieldType} {w' : va_W} (hts : ∀ w ∈ Ts, w.before args s = true) (hin : ∀ w ∈ u_ws C T N, w ∈ Ts) (ty0 : Nat → FieldType) (hty : ∀ k, k < N → parseFieldDescriptor (T k).2.2.1 = some (ty0 k)) (hnm : ∀ a, a < N → ∀ b, b < N → a ≠ b → (T a).2.1 ≠ (T b).2.1) (hown : s.vm.findClass own = some m.cls) (hK : va_K D cl tys s) (hD : va_D A w) (he : w[q0]? = some (a, .inr (ci, fs))) (hc : cl[ci]? = some (C, T, N)) (f : Nat) (hf : f < N) (hlink : (Cond.fieldLinkNest own index (T f).1 (T f).2.1 (T f).2.2.1 host).before args s = true) (hfin : (T f).2.2.2 = false) (hpd : parseFieldDescriptor (T f).2.2.1 = some ty) (hn : narrow ty v = v) (hfit : fits ty v = true) (hl2 : f < fs.length) (hd : decode cc pc = .ok (.putfield index, 3)) (hw : w.set q0 (a, .inr (ci, fs.set f v)) = w')
    (kk : G p l e R s m args below meth c D cl A k n Q w' L (pc + 3) st) : G p l e R s m args below meth c D cl A k n Q w L pc (v :: .ref a :: st) :=
  fun H locs ls hP hS hl => va_putN hx hb hts hin ty0 hty hnm hown hK hP hD hS q0 he hc f hf hlink (fun _ h => h) hfin hpd hn hfit hl2 hd (fun H1 locs1 hP1 _ hS1 => kk H1 locs1 ls (hw ▸ hP1) hS1 hl)
theorem q_in {j n : Nat} (h : j < n) (hn : n < 2 ^ 31) : vp_in (nI j) n := vp_in_nI h hn
theorem g_iald (hx : p.tables.exec = Jvm.exec) (hb : c.code = cc) {tys : List (ClassId × FieldType)} {a q0 j len : Nat} {cA : ClassId} {f : Nat → Int32} {x : Int32} (hK : va_K D cl tys s) (he : w[q0]? = some (a, .inl (cA, len, .inl f))) (t0 : Nat) (ht : tys[t0]? = some (cA, .int)) (hj : j < len) (hlen : len < 2 ^ 31) (hv : f j = x) (hd : decode cc pc = .ok (.iaload, 1))
    (kk : G p l e R s m args below meth c D cl A k n Q w L (pc + 1) (.int x :: st)) : G p l e R s m args below meth c D cl A k n Q w L pc (.int (nI j) :: .ref a :: st) :=
  fun H locs ls hP hS hl => va_iald hx hb hK hP q0 t0 he ht (q_in hj hlen) hd (by rw [nI_clamp (Nat.lt_trans hj hlen), hv]; exact kk H locs ls hP hS hl)
theorem g_zald (hx : p.tables.exec = Jvm.exec) (hb : c.code = cc) {tys : List (ClassId × FieldType)} {a q0 j len : Nat} {cA : ClassId} {f : Nat → Int32} {x : Int32} (hK : va_K D cl tys s) (he : w[q0]? = some (a, .inl (cA, len, .inl f))) (t0 : Nat) (ht : tys[t0]? = some (cA, .boolean)) (hj : j < len) (hlen : len < 2 ^ 31) (hv : f j = x) (hd : decode cc pc = .ok (.baload, 1))
    (kk : G p l e R s m args below meth c D cl A k n Q w L (pc + 1) (.int x :: st)) : G p l e R s m args below meth c D cl A k n Q w L pc (.int (nI j) :: .ref a :: st) :=
  fun H locs ls hP hS hl => va_zald hx hb hK hP q0 t0 he ht (q_in hj hlen) hd (by rw [nI_clamp (Nat.lt_trans hj hlen), hv]; exact kk H locs ls hP hS hl)
theorem g_aald (hx : p.tables.exec = Jvm.exec) (hb : c.code = cc) {tys : List (ClassId × FieldType)} {a q0 j len b : Nat} {cA : ClassId} {C : String} {f : Nat → Option Nat} (hK : va_K D cl tys s) (he : w[q0]? = some (a, .inl (cA, len, .inr (.inr (.inr (.inr f)))))) (t0 : Nat) (ht : tys[t0]? = some (cA, .object C)) (hj : j < len) (hlen : len < 2 ^ 31) (hv : f j = some b) (hd : decode cc pc = .ok (.aaload, 1))
    (kk : G p l e R s m args below meth c D cl A k n Q w L (pc + 1) (.ref b :: st)) : G p l e R s m args below meth c D cl A k n Q w L pc (.int (nI j) :: .ref a :: st) :=
  fun H locs ls hP hS hl => va_aldq hx hb hK hP q0 t0 he ht (q_in hj hlen) hd (by rw [nI_clamp (Nat.lt_trans hj hlen), hv]; exact kk H locs ls hP hS hl)
theorem g_iast (hx : p.tables.exec = Jvm.exec) (hb : c.code = cc) {tys : List (ClassId × FieldType)} {a q0 j len : Nat} {cA : ClassId} {f : Nat → Int32} {x : Int32} {w' : va_W} (hK : va_K D cl tys s) (hD : va_D A w) (he : w[q0]? = some (a, .inl (cA, len, .inl f))) (t0 : Nat) (ht : tys[t0]? = some (cA, .int)) (hj : j < len) (hlen : len < 2 ^ 31) (hd : decode cc pc = .ok (.iastore, 1)) (hw : w.set q0 (a, .inl (cA, len, .inl (upd f j x))) = w')
    (kk : G p l e R s m args below meth c D cl A k n Q w' L (pc + 1) st) : G p l e R s m args below meth c D cl A k n Q w L pc (.int x :: .int (nI j) :: .ref a :: st) :=
  fun H locs ls hP hS hl => va_iast hx hb hK hP hD hS q0 t0 he ht (q_in hj hlen) hd (fun H1 locs1 hP1 _ hS1 => kk H1 locs1 ls (by rw [nI_clamp (Nat.lt_trans hj hlen), hw] at hP1; exact hP1) hS1 hl)
theorem g_zast (hx : p.tables.exec = Jvm.exec) (hb : c.code = cc) {tys : List (ClassId × FieldType)} {a q0 j len : Nat} {cA : ClassId} {f : Nat → Int32} {x : Int32} {w' : va_W} (hK : va_K D cl tys s) (hD : va_D A w) (he : w[q0]? = some (a, .inl (cA, len, .inl f))) (t0 : Nat) (ht : tys[t0]? = some (cA, .boolean)) (hj : j < len) (hlen : len < 2 ^ 31) (hd : decode cc pc = .ok (.bastore, 1)) (hx1 : vp_nar .boolean x = x) (hw : w.set q0 (a, .inl (cA, len, .inl (upd f j x))) = w')
    (kk : G p l e R s m args below meth c D cl A k n Q w' L (pc + 1) st) : G p l e R s m args below meth c D cl A k n Q w L pc (.int x :: .int (nI j) :: .ref a :: st) :=
  fun H locs ls hP hS hl => va_zast hx hb hK hP hD hS q0 t0 he ht (q_in hj hlen) hd (fun H1 locs1 hP1 _ hS1 => kk H1 locs1 ls (by rw [nI_clamp (Nat.lt_trans hj hlen), hx1, hw] at hP1; exact hP1) hS1 hl)
theorem g_alen (hx : p.tables.exec = Jvm.exec) (hb : c.code = cc) {tys : List (ClassId × FieldType)} {a q0 : Nat} {cA : ClassId} {y : vp_A} {ty : FieldType} {len : Nat} (hK : va_K D cl tys s) (he : w[q0]? = some (a, .inl (cA, y))) (t0 : Nat) (ht : tys[t0]? = some (cA, ty)) (hv : y.1 = len) (hd : decode cc pc = .ok (.arraylength, 1))
    (kk : G p l e R s m args below meth c D cl A k n Q w L (pc + 1) (.int (nI len) :: st)) : G p l e R s m args below meth c D cl A k n Q w L pc (.ref a :: st) :=
  fun H locs ls hP hS hl => va_alen hx hb hK hP q0 t0 he ht (v := nI len) (by rw [hv]; rfl) hd (kk H locs ls hP hS hl)
end GR
/-- a contract over a world: i an int (or boolean) answer, v none -/
def CTi (l : Launch) (y : MethodName) (ws : List Cond) (rm : Room) (K : State → Prop) (D : va_G) (cl : List vw_C) (A : Nat → Prop) (av : List Value) (w : va_W) (post : Int32 → va_W → Prop) : Prop :=
  Met l y ws rm (va_Pc av (fun U => va_P D cl w U.heap ∧ K U)) (va_Qi post (fun w' t => va_P D cl w' t.heap) A) 0 0 A
def CTv (l : Launch) (y : MethodName) (ws : List Cond) (rm : Room) (K : State → Prop) (D : va_G) (cl : List vw_C) (A : Nat → Prop) (av : List Value) (w : va_W) (post : va_W → Prop) : Prop :=
  Met l y ws rm (va_Pc av (fun U => va_P D cl w U.heap ∧ K U)) (va_Qv post (fun w' t => va_P D cl w' t.heap) A) 0 0 A
def K_ok (K : State → Prop) : Prop := (∀ (a : Array Value) (U : State) (g : JFrame) (mk : MethodId), K U → K (U.calling g mk a)) ∧ ∀ s U : State, s.WarmedH U.vm → K s → K U
section GC
variable {p : Program} {l : Launch} {e : Env} {R : Room} {s : State} {m : MethodId} {args : Array Value} {below : List Frame} {meth : Method} {c : Code} {D : va_G} {cl : List vw_C} {A A0 : Nat → Prop} {k n : Nat} {Q : State → Prop} {w : va_W} {L : List (Option Value)} {pc : Nat} {st rest : List Value} {cc : ByteArray}
variable {y : MethodName} {bytes : ByteArray} {maxL nn index : Nat} {ret : Option FieldType} {ws ws' Ts : List Cond} {rm : Room} {K : State → Prop} {own C host : String} {b : Nat} {As : List Value}
theorem ct_i {av : List Value} {post : Int32 → va_W → Prop} (hy : plainName y.cls = true) (hw : ws = Cond.code y cc maxL ret :: ws') (hcat : av.all (fun v => v.category == 1) = true) (hlen : av.length ≤ maxL)
    (body : ∀ (p : Program) (e : Env) (s : State) (m : MethodId) (below : List Frame) (meth : Method) (c : Code), p.tables.exec = Jvm.exec → c.code = cc → meth.sig.returnType = ret → (∀ w ∈ ws, w.before av.toArray s = true) → s.vm.findClass y.cls = some m.cls → meth.locks = false → c.maxLocals = maxL → K s →
      G p l e rm s m av.toArray below meth c D cl A 0 0 (MQ below (va_Qi post (fun w' t => va_P D cl w' t.heap) A) av.toArray s 0 0 A) w (av.map some ++ List.replicate (maxL - av.length) none) 0 []) : CTi l y ws rm K D cl A av w post := by
  refine Met.ofW (cc := cc) (maxL := maxL) (ret := ret) hy hw ?_
  intro p e s m args below meth c s₁ B hml hv
  obtain ⟨rfl, hP, hK⟩ := hv
  rw [lg_entry_eq]
  exact body p e s m below meth c B.exec B.bytes B.returns (atoms_spec (ws := ws) B.pre) (findClass_of_methodNamed B.named) B.notSynchronized hml hK s.heap [] _ hP va_S.rf (lq_entry av (fun v hv => by simpa using List.all_eq_true.mp hcat v hv) maxL hlen)
theorem ct_v {av : List Value} {post : va_W → Prop} (hy : plainName y.cls = true) (hw : ws = Cond.code y cc maxL ret :: ws') (hcat : av.all (fun v => v.category == 1) = true) (hlen : av.length ≤ maxL)
    (body : ∀ (p : Program) (e : Env) (s : State) (m : MethodId) (below : List Frame) (meth : Method) (c : Code), p.tables.exec = Jvm.exec → c.code = cc → meth.sig.returnType = ret → (∀ w ∈ ws, w.before av.toArray s = true) → s.vm.findClass y.cls = some m.cls → meth.locks = false → c.maxLocals = maxL → K s →
      G p l e rm s m av.toArray below meth c D cl A 0 0 (MQ below (va_Qv post (fun w' t => va_P D cl w' t.heap) A) av.toArray s 0 0 A) w (av.map some ++ List.replicate (maxL - av.length) none) 0 []) : CTv l y ws rm K D cl A av w post := by
  refine Met.ofW (cc := cc) (maxL := maxL) (ret := ret) hy hw ?_
  intro p e s m args below meth c s₁ B hml hv
  obtain ⟨rfl, hP, hK⟩ := hv
  rw [lg_entry_eq]
  exact body p e s m below meth c B.exec B.bytes B.returns (atoms_spec (ws := ws) B.pre) (findClass_of_methodNamed B.named) B.notSynchronized hml hK s.heap [] _ hP va_S.rf (lq_entry av (fun v hv => by simpa using List.all_eq_true.mp hcat v hv) maxL hlen)
theorem g_iret (hx : p.tables.exec = Jvm.exec) (hb : c.code = cc) (hr : meth.sig.returnType = some .int) (hlk : meth.locks = false) {post : Int32 → va_W → Prop} {x : Int32} (hd : decode cc pc = .ok (.ireturn, 1)) (hp : post x w) : G p l e R s m args below meth c D cl A 0 0 (MQ below (va_Qi post (fun w' t => va_P D cl w' t.heap) A) args s 0 0 A) w L pc [.int x] :=
  fun H locs ls hP hS hl => W.iret hx hb hr (fun t ht hW => ⟨⟨x, w, rfl, hp, (show va_P D cl w t.heap by rw [ht]; exact hP)⟩, hS.F ht⟩) hS.2.2 hd hlk
theorem g_zret (hx : p.tables.exec = Jvm.exec) (hb : c.code = cc) (hr : meth.sig.returnType = some .boolean) (hlk : meth.locks = false) {post : Int32 → va_W → Prop} {x : Int32} (hn : narrow .boolean (.int x) = .int x) (hd : decode cc pc = .ok (.ireturn, 1)) (hp : post x w) : G p l e R s m args below meth c D cl A 0 0 (MQ below (va_Qi post (fun w' t => va_P D cl w' t.heap) A) args s 0 0 A) w L pc [.int x] :=
  fun H locs ls hP hS hl => W.zret hx hb hr hn (fun t ht hW => ⟨⟨x, w, rfl, hp, (show va_P D cl w t.heap by rw [ht]; exact hP)⟩, hS.F ht⟩) hS.2.2 hd hlk
theorem g_vret (hx : p.tables.exec = Jvm.exec) (hb : c.code = cc) (hr : meth.sig.returnType = none) (hlk : meth.locks = false) {post : va_W → Prop} (hd : decode cc pc = .ok (.return_, 1)) (hp : post w) : G p l e R s m args below meth c D cl A 0 0 (MQ below (va_Qv post (fun w' t => va_P D cl w' t.heap) A) args s 0 0 A) w L pc [] :=
  fun H locs ls hP hS hl => W.vret hx hb hr (fun t ht hW => ⟨⟨w, rfl, hp, (show va_P D cl w t.heap by rw [ht]; exact hP)⟩, hS.F ht⟩) hS.2.2 hd hlk
theorem g_callSi {post : Int32 → va_W → Prop} (S : CallFix p m c cc L.length s args Ts own) (hM : CTi l y ws rm K D cl A As w post) (cw : CallB R s args own index y bytes maxL ret ws rm 0 0 nn ∧ (Cond.static y).before args s = true) (hA : ∀ q, A q → A0 q) (hKo : K_ok K) (hK : K s) (hroom : (rest.map fun v => v.category).sum ≤ 8) (hf : k ≤ R.cells ∧ n ≤ R.slots) (hn : As.length = nn) (hst : st = As.reverse ++ rest) (hd : decode cc pc = .ok (.invokestatic index, 3))
    (kk : ∀ (r : Int32) (w' : va_W), post r w' → G p l e R s m args below meth c D cl A0 k n Q w' L (pc + 3) (.int r :: rest)) : G p l e R s m args below meth c D cl A0 k n Q w L pc st :=
  fun H locs ls hP hS hl => va_calli (va_runS (As := As) (rest := rest) S hM cw ⟨(fun a U g mk q => ⟨q.1, q.2.1, hKo.1 a U g mk q.2.2⟩), fun U hU hW => ⟨rfl, by rw [hU]; exact hP, hKo.2 s U hW hK⟩⟩ rfl hn hl.1 hst (lv_room hroom) hd hf) hS (fun q _ h => hA q h) hA (fun r u t H1 locs1 ht hvm hp hB _ _ hS1 => kk r u hp H1 locs1 ls (ht ▸ hB) hS1 hl)
theorem g_callSNi {post : Int32 → va_W → Prop} (S : CallFix p m c cc L.length s args Ts own) (hM : CTi l y ws rm K D cl A As w post) (cw : va_CN R s args own index y host bytes maxL ret ws rm 0 0 nn ∧ (Cond.static y).before args s = true ∧ True) (hA : ∀ q, A q → A0 q) (hKo : K_ok K) (hK : K s) (hroom : (rest.map fun v => v.category).sum ≤ 8) (hf : k ≤ R.cells ∧ n ≤ R.slots) (hn : As.length = nn) (hst : st = As.reverse ++ rest) (hd : decode cc pc = .ok (.invokestatic index, 3))
    (kk : ∀ (r : Int32) (w' : va_W), post r w' → G p l e R s m args below meth c D cl A0 k n Q w' L (pc + 3) (.int r :: rest)) : G p l e R s m args below meth c D cl A0 k n Q w L pc st :=
  fun H locs ls hP hS hl => va_calli (va_runSN (As := As) (rest := rest) S hM cw ⟨(fun a U g mk q => ⟨q.1, q.2.1, hKo.1 a U g mk q.2.2⟩), fun U hU hW => ⟨rfl, by rw [hU]; exact hP, hKo.2 s U hW hK⟩⟩ rfl hn hl.1 hst (lv_room hroom) hd hf) hS (fun q _ h => hA q h) hA (fun r u t H1 locs1 ht hvm hp hB _ _ hS1 => kk r u hp H1 locs1 ls (ht ▸ hB) hS1 hl)
theorem g_callVi {post : Int32 → va_W → Prop} (S : CallFix p m c cc L.length s args Ts own) (hM : CTi l y ws rm K D cl A (.ref b :: As) w post) (cw : CallW R s args own C index y bytes maxL ret ws rm 0 0 nn) {tys : List (ClassId × FieldType)} {q0 ci : Nat} {r0 : vw_C} {fs : List Value} (hKv : va_K D cl tys s) (hc : cl[ci]? = some r0) (he : w[q0]? = some (b, .inr (ci, fs))) (hr0 : r0.1 = C) (hA : ∀ q, A q → A0 q) (hKo : K_ok K) (hK : K s) (hroom : (rest.map fun v => v.category).sum ≤ 8) (hf : k ≤ R.cells ∧ n ≤ R.slots) (hn : As.length = nn) (hst : st = As.reverse ++ .ref b :: rest) (hd : decode cc pc = .ok (.invokevirtual index, 3))
    (kk : ∀ (r : Int32) (w' : va_W), post r w' → G p l e R s m args below meth c D cl A0 k n Q w' L (pc + 3) (.int r :: rest)) : G p l e R s m args below meth c D cl A0 k n Q w L pc st :=
  fun H locs ls hP hS hl => va_calli (va_runV (As := As) (rest := rest) S hM cw ⟨(fun a U g mk q => ⟨q.1, q.2.1, hKo.1 a U g mk q.2.2⟩), hr0 ▸ va_recv hKv hP hc he, fun U hU hW => ⟨rfl, by rw [hU]; exact hP, hKo.2 s U hW hK⟩⟩ rfl hn hl.1 hst (lv_room hroom) hd hf) hS (fun q _ h => hA q h) hA (fun r u t H1 locs1 ht hvm hp hB _ _ hS1 => kk r u hp H1 locs1 ls (ht ▸ hB) hS1 hl)
theorem g_callVNi {post : Int32 → va_W → Prop} (S : CallFix p m c cc L.length s args Ts own) (hM : CTi l y ws rm K D cl A (.ref b :: As) w post) (cw : va_CN R s args own index y host bytes maxL ret ws rm 0 0 nn ∧ (Cond.instanceMethod y).before args s = true ∧ (Cond.selects C y y).before args s = true) {tys : List (ClassId × FieldType)} {q0 ci : Nat} {r0 : vw_C} {fs : List Value} (hKv : va_K D cl tys s) (hc : cl[ci]? = some r0) (he : w[q0]? = some (b, .inr (ci, fs))) (hr0 : r0.1 = C) (hA : ∀ q, A q → A0 q) (hKo : K_ok K) (hK : K s) (hroom : (rest.map fun v => v.category).sum ≤ 8) (hf : k ≤ R.cells ∧ n ≤ R.slots) (hn : As.length = nn) (hst : st = As.reverse ++ .ref b :: rest) (hd : decode cc pc = .ok (.invokevirtual index, 3))
    (kk : ∀ (r : Int32) (w' : va_W), post r w' → G p l e R s m args below meth c D cl A0 k n Q w' L (pc + 3) (.int r :: rest)) : G p l e R s m args below meth c D cl A0 k n Q w L pc st :=
  fun H locs ls hP hS hl => va_calli (va_runVN (As := As) (rest := rest) S hM cw ⟨(fun a U g mk q => ⟨q.1, q.2.1, hKo.1 a U g mk q.2.2⟩), hr0 ▸ va_recv hKv hP hc he, fun U hU hW => ⟨rfl, by rw [hU]; exact hP, hKo.2 s U hW hK⟩⟩ rfl hn hl.1 hst (lv_room hroom) hd hf) hS (fun q _ h => hA q h) hA (fun r u t H1 locs1 ht hvm hp hB _ _ hS1 => kk r u hp H1 locs1 ls (ht ▸ hB) hS1 hl)
theorem g_callSv {post : va_W → Prop} (S : CallFix p m c cc L.length s args Ts own) (hM : CTv l y ws rm K D cl A As w post) (cw : CallB R s args own index y bytes maxL ret ws rm 0 0 nn ∧ (Cond.static y).before args s = true) (hA : ∀ q, A q → A0 q) (hKo : K_ok K) (hK : K s) (hroom : (rest.map fun v => v.category).sum ≤ 8) (hf : k ≤ R.cells ∧ n ≤ R.slots) (hn : As.length = nn) (hst : st = As.reverse ++ rest) (hd : decode cc pc = .ok (.invokestatic index, 3))
    (kk : ∀ (w' : va_W), post w' → G p l e R s m args below meth c D cl A0 k n Q w' L (pc + 3) rest) : G p l e R s m args below meth c D cl A0 k n Q w L pc st :=
  fun H locs ls hP hS hl => va_callv (va_runS (As := As) (rest := rest) S hM cw ⟨(fun a U g mk q => ⟨q.1, q.2.1, hKo.1 a U g mk q.2.2⟩), fun U hU hW => ⟨rfl, by rw [hU]; exact hP, hKo.2 s U hW hK⟩⟩ rfl hn hl.1 hst (lv_room hroom) hd hf) hS (fun q _ h => hA q h) hA (fun u t H1 locs1 ht hvm hp hB _ _ hS1 => kk u hp H1 locs1 ls (ht ▸ hB) hS1 hl)
theorem g_callSNv {post : va_W → Prop} (S : CallFix p m c cc L.length s args Ts own) (hM : CTv l y ws rm K D cl A As w post) (cw : va_CN R s args own index y host bytes maxL ret ws rm 0 0 nn ∧ (Cond.static y).before args s = true ∧ True) (hA : ∀ q, A q → A0 q) (hKo : K_ok K) (hK : K s) (hroom : (rest.map fun v => v.category).sum ≤ 8) (hf : k ≤ R.cells ∧ n ≤ R.slots) (hn : As.length = nn) (hst : st = As.reverse ++ rest) (hd : decode cc pc = .ok (.invokestatic index, 3))
    (kk : ∀ (w' : va_W), post w' → G p l e R s m args below meth c D cl A0 k n Q w' L (pc + 3) rest) : G p l e R s m args below meth c D cl A0 k n Q w L pc st :=
  fun H locs ls hP hS hl => va_callv (va_runSN (As := As) (rest := rest) S hM cw ⟨(fun a U g mk q => ⟨q.1, q.2.1, hKo.1 a U g mk q.2.2⟩), fun U hU hW => ⟨rfl, by rw [hU]; exact hP, hKo.2 s U hW hK⟩⟩ rfl hn hl.1 hst (lv_room hroom) hd hf) hS (fun q _ h => hA q h) hA (fun u t H1 locs1 ht hvm hp hB _ _ hS1 => kk u hp H1 locs1 ls (ht ▸ hB) hS1 hl)
theorem g_callVv {post : va_W → Prop} (S : CallFix p m c cc L.length s args Ts own) (hM : CTv l y ws rm K D cl A (.ref b :: As) w post) (cw : CallW R s args own C index y bytes maxL ret ws rm 0 0 nn) {tys : List (ClassId × FieldType)} {q0 ci : Nat} {r0 : vw_C} {fs : List Value} (hKv : va_K D cl tys s) (hc : cl[ci]? = some r0) (he : w[q0]? = some (b, .inr (ci, fs))) (hr0 : r0.1 = C) (hA : ∀ q, A q → A0 q) (hKo : K_ok K) (hK : K s) (hroom : (rest.map fun v => v.category).sum ≤ 8) (hf : k ≤ R.cells ∧ n ≤ R.slots) (hn : As.length = nn) (hst : st = As.reverse ++ .ref b :: rest) (hd : decode cc pc = .ok (.invokevirtual index, 3))
    (kk : ∀ (w' : va_W), post w' → G p l e R s m args below meth c D cl A0 k n Q w' L (pc + 3) rest) : G p l e R s m args below meth c D cl A0 k n Q w L pc st :=
  fun H locs ls hP hS hl => va_callv (va_runV (As := As) (rest := rest) S hM cw ⟨(fun a U g mk q => ⟨q.1, q.2.1, hKo.1 a U g mk q.2.2⟩), hr0 ▸ va_recv hKv hP hc he, fun U hU hW => ⟨rfl, by rw [hU]; exact hP, hKo.2 s U hW hK⟩⟩ rfl hn hl.1 hst (lv_room hroom) hd hf) hS (fun q _ h => hA q h) hA (fun u t H1 locs1 ht hvm hp hB _ _ hS1 => kk u hp H1 locs1 ls (ht ▸ hB) hS1 hl)
theorem g_callVNv {post : va_W → Prop} (S : CallFix p m c cc L.length s args Ts own) (hM : CTv l y ws rm K D cl A (.ref b :: As) w post) (cw : va_CN R s args own index y host bytes maxL ret ws rm 0 0 nn ∧ (Cond.instanceMethod y).before args s = true ∧ (Cond.selects C y y).before args s = true) {tys : List (ClassId × FieldType)} {q0 ci : Nat} {r0 : vw_C} {fs : List Value} (hKv : va_K D cl tys s) (hc : cl[ci]? = some r0) (he : w[q0]? = some (b, .inr (ci, fs))) (hr0 : r0.1 = C) (hA : ∀ q, A q → A0 q) (hKo : K_ok K) (hK : K s) (hroom : (rest.map fun v => v.category).sum ≤ 8) (hf : k ≤ R.cells ∧ n ≤ R.slots) (hn : As.length = nn) (hst : st = As.reverse ++ .ref b :: rest) (hd : decode cc pc = .ok (.invokevirtual index, 3))
    (kk : ∀ (w' : va_W), post w' → G p l e R s m args below meth c D cl A0 k n Q w' L (pc + 3) rest) : G p l e R s m args below meth c D cl A0 k n Q w L pc st :=
  fun H locs ls hP hS hl => va_callv (va_runVN (As := As) (rest := rest) S hM cw ⟨(fun a U g mk q => ⟨q.1, q.2.1, hKo.1 a U g mk q.2.2⟩), hr0 ▸ va_recv hKv hP hc he, fun U hU hW => ⟨rfl, by rw [hU]; exact hP, hKo.2 s U hW hK⟩⟩ rfl hn hl.1 hst (lv_room hroom) hd hf) hS (fun q _ h => hA q h) hA (fun u t H1 locs1 ht hvm hp hB _ _ hS1 => kk u hp H1 locs1 ls (ht ▸ hB) hS1 hl)
end GC
end
section
/-- the state: cell, place -> number (an int by its 32 bits) -/
abbrev VV : Type := Nat → Nat → Nat
def pt (V : VV) (c k n : Nat) : VV := fun c' k' => if c' = c ∧ k' = k then n else V c' k'
theorem pt_eq {V : VV} {c k n c' k' : Nat} (h : c' = c) (h2 : k' = k) : pt V c k n c' k' = n := by simp [pt, h, h2]
theorem pt_ne {V : VV} {c k n c' k' : Nat} (h : c' ≠ c) : pt V c k n c' k' = V c' k' := by simp [pt, h]
theorem pt_nk {V : VV} {c k n c' k' : Nat} (h : k' ≠ k) : pt V c k n c' k' = V c' k' := by simp [pt, h]
theorem pt_row {V : VV} {c k n : Nat} : pt V c k n c = fun j => if j = k then n else V c j := by funext j; simp [pt]
theorem pt_rne {V : VV} {c k n c' : Nat} (h : c' ≠ c) : pt V c k n c' = V c' := by funext j; simp [pt, h]
/-- the length of a process's array: knownNumbers, knownChanges, payloads, vectors, cutViews, cuts, event -/
def plen (k : Nat) : Nat := match k with
  | 1 => 64
  | 2 => 4
  | 3 => 64
  | 4 => 64
  | 5 => 16
  | 6 => 16
  | _ => 4
/-- the reference's arrays, in the order of its fields -/
def mlen (c : Nat) : Nat := match c with
  | 78 => 16
  | 79 => 16
  | 80 => 16
  | 81 => 64
  | 82 => 256
  | 83 => 1024
  | 84 => 1024
  | 85 => 64
  | 86 => 256
  | 87 => 256
  | 88 => 1280
  | 89 => 16
  | _ => 4
/-- which array class: 1 boolean, 0 int -/
def mty (c : Nat) : Nat := match c with
  | 73 => 1
  | 74 => 1
  | 84 => 1
  | 87 => 1
  | _ => 0
/-- what a cell is: cell 0 the GroupViews, 1 its processes, 2 its lines, 3 sets, 4 starts; 5 + 8 p a process and its seven arrays; 37 + 2 i a line and its packets; 69 the reference, 70 .. 90 its arrays -/
def kd (ad : Nat → Nat) (ct : Nat → ClassId) (c : Nat) (g : Nat → Nat) : va_E :=
  if c = 0 then .inr (0, [.ref (ad 1), .ref (ad 2), .ref (ad 3), .ref (ad 4), .int (nI (g 4))])
  else if c = 1 then .inl (ct 2, 4, .inr (.inr (.inr (.inr (fun i => if i < 4 then some (ad (5 + 8 * i)) else none)))))
  else if c = 2 then .inl (ct 3, 16, .inr (.inr (.inr (.inr (fun i => if i < 16 then some (ad (37 + 2 * i)) else none)))))
  else if c = 3 then .inl (ct 0, 16, .inl (fun i => nI (g i)))
  else if c = 4 then .inl (ct 0, 64, .inl (fun i => nI (g i)))
  else if c < 37 then (if (c - 5) % 8 = 0 then .inr (1, [.int (nI (g 0)), .int (nI (g 1)), .int (nI (g 2)), .int (nI (g 3)), .int (nI (g 4)), .int (nI (g 5)), .int (nI (g 6)), .int (nI (g 7)), .int (nI (g 8)), .ref (ad (c + 1)), .ref (ad (c + 2)), .ref (ad (c + 3)), .ref (ad (c + 4)), .ref (ad (c + 5)), .ref (ad (c + 6)), .ref (ad (c + 7))])
    else .inl (ct 0, plen ((c - 5) % 8), .inl (fun i => nI (g i))))
  else if c < 69 then (if (c - 37) % 2 = 0 then .inr (2, [.ref (ad (c + 1)), .int (nI (g 1)), .int (nI (g 2))]) else .inl (ct 0, 75, .inl (fun i => nI (g i))))
  else if c = 69 then .inr (3, [.ref (ad 70), .ref (ad 71), .ref (ad 72), .ref (ad 73), .ref (ad 74), .ref (ad 75), .ref (ad 76), .ref (ad 77), .ref (ad 78), .ref (ad 79), .int (nI (g 10)), .ref (ad 80), .ref (ad 81), .ref (ad 82), .ref (ad 83), .ref (ad 84), .ref (ad 85), .ref (ad 86), .ref (ad 87), .ref (ad 88), .ref (ad 89), .ref (ad 90), .int (nI (g 22))])
  else .inl (ct (mty c), mlen c, .inl (fun i => nI (g i)))
def gw (ad : Nat → Nat) (ct : Nat → ClassId) (V : VV) : va_W := (List.range 91).map (fun c => (ad c, kd ad ct c (V c)))
section GW
variable {ad : Nat → Nat} {ct : Nat → ClassId} {V : VV}
theorem gw_len : (gw ad ct V).length = 91 := by simp [gw]
theorem gw_at {c : Nat} (h : c < 91) : (gw ad ct V)[c]? = some (ad c, kd ad ct c (V c)) := by simp [gw, h]
theorem gw_put {c k n : Nat} {x : va_E} (h : c < 91) (hx : kd ad ct c (fun j => if j = k then n else V c j) = x) : (gw ad ct V).set c (ad c, x) = gw ad ct (pt V c k n) := by
  apply List.ext_getElem?
  intro i
  by_cases hi : i < 91
  · rw [gw_at hi]
    by_cases hc : c = i
    · subst hc
      rw [List.getElem?_set_self (by rw [gw_len]; exact h), pt_row, hx]
    · rw [List.getElem?_set_ne hc, gw_at hi, pt_rne (fun q => hc q.symm)]
  · rw [List.getElem?_eq_none (by rw [List.length_set, gw_len]; omega), List.getElem?_eq_none (by rw [gw_len]; omega)]
/-- the addresses are apart -/
def adOk (ad : Nat → Nat) : Prop := ∀ i j, i < 91 → j < 91 → ad i = ad j → i = j
/-- the cells' addresses -/
def gA (ad : Nat → Nat) : Nat → Prop := fun q => ∃ c, c < 91 ∧ q = ad c
theorem gw_D (h : adOk ad) : va_D (gA ad) (gw ad ct V) := by
  have key : ∀ (i : Nat) (q : Nat × va_E), (gw ad ct V)[i]? = some q → i < 91 ∧ q.1 = ad i := by
    intro i q hq
    have hi : i < 91 := by have := (List.getElem?_eq_some_iff.mp hq).1; rw [gw_len] at this; exact this
    rw [gw_at hi] at hq
    cases hq
    exact ⟨hi, rfl⟩
  refine ⟨fun i j x y hi hj hxy => ?_, fun i q hq => ?_⟩
  · obtain ⟨a1, a2⟩ := key i x hi
    obtain ⟨b1, b2⟩ := key j y hj
    exact h i j a1 b1 (by rw [← a2, ← b2]; exact hxy)
  · obtain ⟨a1, a2⟩ := key i q hq
    exact ⟨i, a1, a2⟩
theorem gw_P {D : va_G} {cl : List vw_C} {H : Heap} : va_P D cl (gw ad ct V) H ↔ ∀ c, c < 91 → va_at D cl (ad c, kd ad ct c (V c)) H := by
  constructor
  · intro h c hc
    exact h c _ (gw_at hc)
  · intro h i q hq
    have hi : i < 91 := by have := (List.getElem?_eq_some_iff.mp hq).1; rw [gw_len] at this; exact this
    rw [gw_at hi] at hq
    cases hq
    exact h i hi
-- reading a cell
theorem w_0 : (gw ad ct V)[0]? = some (ad 0, .inr (0, [.ref (ad 1), .ref (ad 2), .ref (ad 3), .ref (ad 4), .int (nI (V 0 4))])) := gw_at (by decide)
theorem w_1 : (gw ad ct V)[1]? = some (ad 1, .inl (ct 2, 4, .inr (.inr (.inr (.inr (fun i => if i < 4 then some (ad (5 + 8 * i)) else none)))))) := gw_at (by decide)
theorem w_2 : (gw ad ct V)[2]? = some (ad 2, .inl (ct 3, 16, .inr (.inr (.inr (.inr (fun i => if i < 16 then some (ad (37 + 2 * i)) else none)))))) := gw_at (by decide)
theorem w_3 : (gw ad ct V)[3]? = some (ad 3, .inl (ct 0, 16, .inl (fun i => nI (V 3 i)))) := gw_at (by decide)
theorem w_4 : (gw ad ct V)[4]? = some (ad 4, .inl (ct 0, 64, .inl (fun i => nI (V 4 i)))) := gw_at (by decide)
theorem kd_P {p : Nat} (hp : p < 4) (g : Nat → Nat) : kd ad ct (5 + 8 * p) g = .inr (1, [.int (nI (g 0)), .int (nI (g 1)), .int (nI (g 2)), .int (nI (g 3)), .int (nI (g 4)), .int (nI (g 5)), .int (nI (g 6)), .int (nI (g 7)), .int (nI (g 8)), .ref (ad (5 + 8 * p + 1)), .ref (ad (5 + 8 * p + 2)), .ref (ad (5 + 8 * p + 3)), .ref (ad (5 + 8 * p + 4)), .ref (ad (5 + 8 * p + 5)), .ref (ad (5 + 8 * p + 6)), .ref (ad (5 + 8 * p + 7))]) := by
  match p, hp with
  | 0, _ => rfl
  | 1, _ => rfl
  | 2, _ => rfl
  | 3, _ => rfl
theorem kd_Pa {p : Nat} (hp : p < 4) {k : Nat} (h0 : 0 < k) (hk : k < 8) (g : Nat → Nat) : kd ad ct (5 + 8 * p + k) g = .inl (ct 0, plen k, .inl (fun i => nI (g i))) := by
  unfold kd
  rw [if_neg (by omega), if_neg (by omega), if_neg (by omega), if_neg (by omega), if_neg (by omega), if_pos (by omega), if_neg (by omega), show (5 + 8 * p + k - 5) % 8 = k by omega]
theorem kd_L {i : Nat} (hi : i < 16) (g : Nat → Nat) : kd ad ct (37 + 2 * i) g = .inr (2, [.ref (ad (37 + 2 * i + 1)), .int (nI (g 1)), .int (nI (g 2))]) := by
  unfold kd
  rw [if_neg (by omega), if_neg (by omega), if_neg (by omega), if_neg (by omega), if_neg (by omega), if_neg (by omega), if_pos (by omega), if_pos (by omega)]
theorem kd_La {i : Nat} (hi : i < 16) (g : Nat → Nat) : kd ad ct (37 + 2 * i + 1) g = .inl (ct 0, 75, .inl (fun i => nI (g i))) := by
  unfold kd
  rw [if_neg (by omega), if_neg (by omega), if_neg (by omega), if_neg (by omega), if_neg (by omega), if_neg (by omega), if_pos (by omega), if_neg (by omega)]
theorem w_P {p : Nat} (hp : p < 4) : (gw ad ct V)[5 + 8 * p]? = some (ad (5 + 8 * p), .inr (1, [.int (nI (V (5 + 8 * p) 0)), .int (nI (V (5 + 8 * p) 1)), .int (nI (V (5 + 8 * p) 2)), .int (nI (V (5 + 8 * p) 3)), .int (nI (V (5 + 8 * p) 4)), .int (nI (V (5 + 8 * p) 5)), .int (nI (V (5 + 8 * p) 6)), .int (nI (V (5 + 8 * p) 7)), .int (nI (V (5 + 8 * p) 8)), .ref (ad (5 + 8 * p + 1)), .ref (ad (5 + 8 * p + 2)), .ref (ad (5 + 8 * p + 3)), .ref (ad (5 + 8 * p + 4)), .ref (ad (5 + 8 * p + 5)), .ref (ad (5 + 8 * p + 6)), .ref (ad (5 + 8 * p + 7))])) := by
  rw [gw_at (by omega), kd_P hp]
theorem w_Pa {p : Nat} (hp : p < 4) {k : Nat} (h0 : 0 < k) (hk : k < 8) : (gw ad ct V)[5 + 8 * p + k]? = some (ad (5 + 8 * p + k), .inl (ct 0, plen k, .inl (fun i => nI (V (5 + 8 * p + k) i)))) := by
  rw [gw_at (by omega), kd_Pa hp h0 hk]
theorem w_L {i : Nat} (hi : i < 16) : (gw ad ct V)[37 + 2 * i]? = some (ad (37 + 2 * i), .inr (2, [.ref (ad (37 + 2 * i + 1)), .int (nI (V (37 + 2 * i) 1)), .int (nI (V (37 + 2 * i) 2))])) := by
  rw [gw_at (by omega), kd_L hi]
theorem w_La {i : Nat} (hi : i < 16) : (gw ad ct V)[37 + 2 * i + 1]? = some (ad (37 + 2 * i + 1), .inl (ct 0, 75, .inl (fun j => nI (V (37 + 2 * i + 1) j)))) := by
  rw [gw_at (by omega), kd_La hi]
theorem w_M : (gw ad ct V)[69]? = some (ad 69, .inr (3, [.ref (ad 70), .ref (ad 71), .ref (ad 72), .ref (ad 73), .ref (ad 74), .ref (ad 75), .ref (ad 76), .ref (ad 77), .ref (ad 78), .ref (ad 79), .int (nI (V 69 10)), .ref (ad 80), .ref (ad 81), .ref (ad 82), .ref (ad 83), .ref (ad 84), .ref (ad 85), .ref (ad 86), .ref (ad 87), .ref (ad 88), .ref (ad 89), .ref (ad 90), .int (nI (V 69 22))])) := gw_at (by decide)
theorem kd_Ma {c : Nat} (h0 : 70 ≤ c) (g : Nat → Nat) : kd ad ct c g = .inl (ct (mty c), mlen c, .inl (fun i => nI (g i))) := by
  unfold kd
  rw [if_neg (by omega), if_neg (by omega), if_neg (by omega), if_neg (by omega), if_neg (by omega), if_neg (by omega), if_neg (by omega), if_neg (by omega)]
theorem w_Ma {c : Nat} (h0 : 70 ≤ c) (h1 : c < 91) : (gw ad ct V)[c]? = some (ad c, .inl (ct (mty c), mlen c, .inl (fun i => nI (V c i)))) := by
  rw [gw_at h1, kd_Ma h0]
-- writing a cell
theorem upd_nI (f : Nat → Nat) (j n : Nat) : upd (fun i => nI (f i)) j (nI n) = fun i => nI (if i = j then n else f i) := by
  funext i
  by_cases h : i = j <;> simp [upd, h]
theorem s_0 (n : Nat) : (gw ad ct V).set 0 (ad 0, .inr (0, ([.ref (ad 1), .ref (ad 2), .ref (ad 3), .ref (ad 4), .int (nI (V 0 4))] : List Value).set 4 (.int (nI n)))) = gw ad ct (pt V 0 4 n) := gw_put (by decide) rfl
theorem s_3 (j n : Nat) : (gw ad ct V).set 3 (ad 3, .inl (ct 0, 16, .inl (upd (fun i => nI (V 3 i)) j (nI n)))) = gw ad ct (pt V 3 j n) := gw_put (by decide) (by rw [upd_nI]; rfl)
theorem s_4 (j n : Nat) : (gw ad ct V).set 4 (ad 4, .inl (ct 0, 64, .inl (upd (fun i => nI (V 4 i)) j (nI n)))) = gw ad ct (pt V 4 j n) := gw_put (by decide) (by rw [upd_nI]; rfl)
theorem s_Pa {p : Nat} (hp : p < 4) {k : Nat} (h0 : 0 < k) (hk : k < 8) (j n : Nat) : (gw ad ct V).set (5 + 8 * p + k) (ad (5 + 8 * p + k), .inl (ct 0, plen k, .inl (upd (fun i => nI (V (5 + 8 * p + k) i)) j (nI n)))) = gw ad ct (pt V (5 + 8 * p + k) j n) := gw_put (by omega) (by rw [upd_nI, kd_Pa hp h0 hk])
theorem s_La {i : Nat} (hi : i < 16) (j n : Nat) : (gw ad ct V).set (37 + 2 * i + 1) (ad (37 + 2 * i + 1), .inl (ct 0, 75, .inl (upd (fun j => nI (V (37 + 2 * i + 1) j)) j (nI n)))) = gw ad ct (pt V (37 + 2 * i + 1) j n) := gw_put (by omega) (by rw [upd_nI, kd_La hi])
theorem s_Ma {c : Nat} (h0 : 70 ≤ c) (h1 : c < 91) (j n : Nat) : (gw ad ct V).set c (ad c, .inl (ct (mty c), mlen c, .inl (upd (fun i => nI (V c i)) j (nI n)))) = gw ad ct (pt V c j n) := gw_put h1 (by rw [upd_nI, kd_Ma h0])
theorem s_P {p : Nat} (hp : p < 4) (k n : Nat) (hk : k < 9) : (gw ad ct V).set (5 + 8 * p) (ad (5 + 8 * p), .inr (1, ([.int (nI (V (5 + 8 * p) 0)), .int (nI (V (5 + 8 * p) 1)), .int (nI (V (5 + 8 * p) 2)), .int (nI (V (5 + 8 * p) 3)), .int (nI (V (5 + 8 * p) 4)), .int (nI (V (5 + 8 * p) 5)), .int (nI (V (5 + 8 * p) 6)), .int (nI (V (5 + 8 * p) 7)), .int (nI (V (5 + 8 * p) 8)), .ref (ad (5 + 8 * p + 1)), .ref (ad (5 + 8 * p + 2)), .ref (ad (5 + 8 * p + 3)), .ref (ad (5 + 8 * p + 4)), .ref (ad (5 + 8 * p + 5)), .ref (ad (5 + 8 * p + 6)), .ref (ad (5 + 8 * p + 7))] : List Value).set k (.int (nI n)))) = gw ad ct (pt V (5 + 8 * p) k n) := by
  refine gw_put (by omega) ?_
  rw [kd_P hp]
  match k, hk with
  | 0, _ => rfl
  | 1, _ => rfl
  | 2, _ => rfl
  | 3, _ => rfl
  | 4, _ => rfl
  | 5, _ => rfl
  | 6, _ => rfl
  | 7, _ => rfl
  | 8, _ => rfl
theorem s_L {i : Nat} (hi : i < 16) (k n : Nat) (h0 : 0 < k) (hk : k < 3) : (gw ad ct V).set (37 + 2 * i) (ad (37 + 2 * i), .inr (2, ([.ref (ad (37 + 2 * i + 1)), .int (nI (V (37 + 2 * i) 1)), .int (nI (V (37 + 2 * i) 2))] : List Value).set k (.int (nI n)))) = gw ad ct (pt V (37 + 2 * i) k n) := by
  refine gw_put (by omega) ?_
  rw [kd_L hi]
  match k, h0, hk with
  | 1, _, _ => rfl
  | 2, _, _ => rfl
theorem s_M10 (n : Nat) : (gw ad ct V).set 69 (ad 69, .inr (3, ([.ref (ad 70), .ref (ad 71), .ref (ad 72), .ref (ad 73), .ref (ad 74), .ref (ad 75), .ref (ad 76), .ref (ad 77), .ref (ad 78), .ref (ad 79), .int (nI (V 69 10)), .ref (ad 80), .ref (ad 81), .ref (ad 82), .ref (ad 83), .ref (ad 84), .ref (ad 85), .ref (ad 86), .ref (ad 87), .ref (ad 88), .ref (ad 89), .ref (ad 90), .int (nI (V 69 22))] : List Value).set 10 (.int (nI n)))) = gw ad ct (pt V 69 10 n) := gw_put (by decide) rfl
theorem s_M22 (n : Nat) : (gw ad ct V).set 69 (ad 69, .inr (3, ([.ref (ad 70), .ref (ad 71), .ref (ad 72), .ref (ad 73), .ref (ad 74), .ref (ad 75), .ref (ad 76), .ref (ad 77), .ref (ad 78), .ref (ad 79), .int (nI (V 69 10)), .ref (ad 80), .ref (ad 81), .ref (ad 82), .ref (ad 83), .ref (ad 84), .ref (ad 85), .ref (ad 86), .ref (ad 87), .ref (ad 88), .ref (ad 89), .ref (ad 90), .int (nI (V 69 22))] : List Value).set 22 (.int (nI n)))) = gw ad ct (pt V 69 22 n) := gw_put (by decide) rfl
end GW
end
section
/-- a truth as a number -/
def bN (P : Prop) [Decidable P] : Nat := if P then 1 else 0
theorem bN_t {P : Prop} [Decidable P] (h : P) : bN P = 1 := if_pos h
theorem bN_f {P : Prop} [Decidable P] (h : ¬ P) : bN P = 0 := if_neg h
theorem bN_0 {P : Prop} [Decidable P] : bN P = 0 ↔ ¬ P := by unfold bN; split <;> simp [*]
theorem bN_n0 {P : Prop} [Decidable P] : ¬ bN P = 0 ↔ P := by unfold bN; split <;> simp [*]
theorem bN_1 {P : Prop} [Decidable P] : bN P = 1 ↔ P := by unfold bN; split <;> simp [*]
theorem bN_lt {P : Prop} [Decidable P] : bN P < 2 ^ 31 := by unfold bN; split <;> decide
-- counts: four numbers of eight bits
def pk4 (d : Nat → Nat) : Nat := d 0 + 256 * d 1 + 65536 * d 2 + 16777216 * d 3
def cnt (x r : Nat) : Nat := x / 2 ^ (r * 8) % 256
def pkd (x : Nat) : Prop := x = pk4 (cnt x) ∧ ∀ r, r < 4 → cnt x r ≤ 4
theorem c4 {P : Nat → Prop} (h0 : P 0) (h1 : P 1) (h2 : P 2) (h3 : P 3) : ∀ r, r < 4 → P r
  | 0, _ => h0
  | 1, _ => h1
  | 2, _ => h2
  | 3, _ => h3
theorem cnt_pk {d : Nat → Nat} (h : ∀ r, r < 4 → d r ≤ 255) : ∀ r, r < 4 → cnt (pk4 d) r = d r := by
  have h0 := h 0 (by decide)
  have h1 := h 1 (by decide)
  have h2 := h 2 (by decide)
  have h3 := h 3 (by decide)
  refine c4 ?_ ?_ ?_ ?_ <;> (simp only [cnt, pk4]; simp only [Nat.reduceMul, Nat.reducePow]; omega)
theorem pk_congr {d f : Nat → Nat} (h : ∀ r, r < 4 → d r = f r) : pk4 d = pk4 f := by
  unfold pk4
  rw [h 0 (by decide), h 1 (by decide), h 2 (by decide), h 3 (by decide)]
theorem pkd_pk {d : Nat → Nat} (h : ∀ r, r < 4 → d r ≤ 4) : pkd (pk4 d) := by
  have hc := cnt_pk (d := d) (fun r hr => Nat.le_trans (h r hr) (by decide))
  exact ⟨pk_congr (fun r hr => (hc r hr).symm), fun r hr => by rw [hc r hr]; exact h r hr⟩
theorem pkd_lt {x : Nat} (h : pkd x) : x < 2 ^ 27 := by
  have h0 := h.2 0 (by decide)
  have h1 := h.2 1 (by decide)
  have h2 := h.2 2 (by decide)
  have h3 := h.2 3 (by decide)
  rw [h.1]
  unfold pk4
  omega
theorem pkd_ext {x y : Nat} (hx : pkd x) (hy : pkd y) (h : ∀ r, r < 4 → cnt x r = cnt y r) : x = y := by
  rw [hx.1, hy.1]
  exact pk_congr h
theorem pkd_0 : pkd 0 := ⟨by decide, c4 (by decide) (by decide) (by decide) (by decide)⟩
def wc (x p y : Nat) : Nat := pk4 (fun r => if r = p then y else cnt x r)
theorem pkd_wc {x p y : Nat} (hx : pkd x) (hy : y ≤ 4) : pkd (wc x p y) := pkd_pk (fun r hr => by
  by_cases h : r = p
  · rw [if_pos h]; exact hy
  · rw [if_neg h]; exact hx.2 r hr)
theorem cnt_wc {x p y : Nat} (hx : pkd x) (hy : y ≤ 4) {r : Nat} (hr : r < 4) : cnt (wc x p y) r = if r = p then y else cnt x r := cnt_pk (d := fun r => if r = p then y else cnt x r) (fun r hr => by
  show (if r = p then y else cnt x r) ≤ 255
  by_cases h : r = p
  · rw [if_pos h]; omega
  · rw [if_neg h]; have := hx.2 r hr; omega) r hr
set_option maxRecDepth 100000 in
theorem wc_fin : ∀ a, a < 5 → ∀ b, b < 5 → ∀ d, d < 5 → ∀ f, f < 5 → ∀ p, p < 4 → ∀ y, y < 5 → ((nI (a + 256 * b + 65536 * d + 16777216 * f) &&& ((nI 255 <<< (nI (p * 8) &&& 31)) ^^^ (-1))) ||| (nI y <<< (nI (p * 8) &&& 31))) = nI ((if 0 = p then y else a) + 256 * (if 1 = p then y else b) + 65536 * (if 2 = p then y else d) + 16777216 * (if 3 = p then y else f)) := by decide +kernel
theorem wc_int {x p y : Nat} (hx : pkd x) (hp : p < 4) (hy : y ≤ 4) : ((nI x &&& ((nI 255 <<< (nI (p * 8) &&& 31)) ^^^ (-1))) ||| (nI y <<< (nI (p * 8) &&& 31))) = nI (wc x p y) := by
  have h0 := hx.2 0 (by decide)
  have h1 := hx.2 1 (by decide)
  have h2 := hx.2 2 (by decide)
  have h3 := hx.2 3 (by decide)
  have h := wc_fin (cnt x 0) (by omega) (cnt x 1) (by omega) (cnt x 2) (by omega) (cnt x 3) (by omega) p hp y (by omega)
  have e : cnt x 0 + 256 * cnt x 1 + 65536 * cnt x 2 + 16777216 * cnt x 3 = x := hx.1.symm
  rw [e] at h
  exact h
/-- the bits of a set -/
def sub16 (a b : Nat) : Prop := a &&& b = a
end
section
-- the class, as functions of the state
def cput (X : VV) (i x : Nat) : VV := if X (37 + 2 * i) 2 < 75 then pt (pt X (37 + 2 * i + 1) (X (37 + 2 * i) 2) x) (37 + 2 * i) 2 (X (37 + 2 * i) 2 + 1) else X
def cpo (X : VV) (p set x : Nat) : Nat → VV
  | 0 => X
  | q + 1 => if q ≠ p ∧ set / 2 ^ q % 2 = 1 then cput (cpo X p set x q) (p * 4 + q) x else cpo X p set x q
def cln (X : VV) (p v r n : Nat) : VV := pt X (5 + 8 * p + 1) (v * 4 + r) (X (5 + 8 * p + 1) (v * 4 + r) ||| 2 ^ n)
def csy (X : VV) (p r c : Nat) : VV := pt X (5 + 8 * p + 2) r (X (5 + 8 * p + 2) r ||| 2 ^ c)
def cev (X : VV) (p a b c d : Nat) : VV := pt (pt (pt (pt X (5 + 8 * p + 7) 0 a) (5 + 8 * p + 7) 1 b) (5 + 8 * p + 7) 2 c) (5 + 8 * p + 7) 3 d
def cps (X : VV) (p : Nat) : Nat := if X (5 + 8 * p) 0 = 0 then 2 ^ p else X 3 (X (5 + 8 * p) 0)
def cen (X : VV) (p : Nat) : VV := pt (pt (pt (pt (pt X (5 + 8 * p) 0 (X (5 + 8 * p) 5)) (5 + 8 * p) 5 0) (5 + 8 * p) 4 0) (5 + 8 * p) 7 0) (5 + 8 * p) 8 0
def cSend (X : VV) (p x : Nat) : Int32 × VV :=
  if ¬ X (5 + 8 * p) 4 = 0 then (-2, X) else if 4 ≤ X (5 + 8 * p) 7 then (-3, X) else
  (nI (X (5 + 8 * p) 7 + 1), cpo (cln (pt (pt (pt X (5 + 8 * p) 7 (X (5 + 8 * p) 7 + 1)) (5 + 8 * p + 3) (X (5 + 8 * p) 0 * 4 + X (5 + 8 * p) 7) x) (5 + 8 * p + 4) (X (5 + 8 * p) 0 * 4 + X (5 + 8 * p) 7) (wc (X (5 + 8 * p) 8) p 0)) p (X (5 + 8 * p) 0) p (X (5 + 8 * p) 7 + 1)) p (cps X p) (X (5 + 8 * p) 0 * 4 + X (5 + 8 * p) 7) 4)
def cChange (X : VV) (p set : Nat) : Int32 × VV :=
  if ¬ (1 ≤ set ∧ set ≤ 15 ∧ set / 2 ^ p % 2 = 1) then (-2, X) else if 15 ≤ X (5 + 8 * p) 1 then (-3, X) else
  (nI (X (5 + 8 * p) 1 + 1), cpo (csy (pt (pt (pt (pt (pt (pt (pt X (5 + 8 * p) 1 (X (5 + 8 * p) 1 + 1)) (5 + 8 * p) 2 set) (5 + 8 * p) 4 1) (5 + 8 * p) 3 1) (5 + 8 * p) 5 0) (5 + 8 * p + 5) (X (5 + 8 * p) 1 + 1) (X (5 + 8 * p) 0)) (5 + 8 * p + 6) (X (5 + 8 * p) 1 + 1) (wc (X (5 + 8 * p) 8) p (X (5 + 8 * p) 7))) p p (X (5 + 8 * p) 1 + 1)) p set (64 + (X (5 + 8 * p) 1 + 1)) 4)
def cfm (X : VV) (set : Nat) : Prop := ∀ q, q < 4 → set / 2 ^ q % 2 = 1 → ¬ X (5 + 8 * q) 3 = 0 ∧ set &&& X (5 + 8 * q) 2 = set
def cfo (X : VV) (set n : Nat) : Nat → VV
  | 0 => X
  | q + 1 => if set / 2 ^ q % 2 = 1 then pt (pt (cfo X set n q) 4 (n * 4 + q) (cfo X set n q (5 + 8 * q) 1)) (5 + 8 * q) 3 0 else cfo X set n q
def crn (X : VV) (q v r : Nat) : Nat → VV
  | 0 => X
  | n + 1 => cln (crn X q v r n) q v r (n + 1)
def crl (X : VV) (q v cut : Nat) : Nat → VV
  | 0 => X
  | r + 1 => crn (crl X q v cut r) q v r (cnt cut r)
def crs (X : VV) (q p c : Nat) : VV := if X (5 + 8 * p + 5) c = 0 then csy X q p c else crl (csy X q p c) q (X (5 + 8 * p + 5) c) (X (5 + 8 * p + 6) c) 4
def cCarry (X : VV) (p q : Nat) : Int32 × VV :=
  if X (37 + 2 * (p * 4 + q)) 2 ≤ X (37 + 2 * (p * 4 + q)) 1 then (0, X) else
  if X (37 + 2 * (p * 4 + q) + 1) (X (37 + 2 * (p * 4 + q)) 1) < 64 then (1, cln (pt X (37 + 2 * (p * 4 + q)) 1 (X (37 + 2 * (p * 4 + q)) 1 + 1)) q (X (37 + 2 * (p * 4 + q) + 1) (X (37 + 2 * (p * 4 + q)) 1) / 4) p (X (37 + 2 * (p * 4 + q) + 1) (X (37 + 2 * (p * 4 + q)) 1) % 4 + 1))
  else (2, crs (pt X (37 + 2 * (p * 4 + q)) 1 (X (37 + 2 * (p * 4 + q)) 1 + 1)) q p (X (37 + 2 * (p * 4 + q) + 1) (X (37 + 2 * (p * 4 + q)) 1) - 64))
def cTell (X : VV) (p v : Nat) : Int32 × VV :=
  if ¬ (1 ≤ v ∧ v ≤ X 0 4 ∧ X 3 v / 2 ^ p % 2 = 1) then (-2, X) else if v ≤ X (5 + 8 * p) 6 then (-3, X) else if ¬ X 4 (v * 4 + p) = X (5 + 8 * p) 1 then (-4, X) else
  (0, pt (pt X (5 + 8 * p) 6 v) (5 + 8 * p) 5 v)
/-- the message of q that is next at p can be delivered -/
def cdl (X : VV) (p lim q : Nat) : Prop := cnt (X (5 + 8 * p) 8) q < cnt lim q ∧ X (5 + 8 * p + 1) (X (5 + 8 * p) 0 * 4 + q) / 2 ^ (cnt (X (5 + 8 * p) 8) q + 1) % 2 = 1 ∧ ∀ r, r < 4 → cnt (X (5 + 8 * q + 4) (X (5 + 8 * p) 0 * 4 + cnt (X (5 + 8 * p) 8) q)) r ≤ cnt (X (5 + 8 * p) 8) r
def cdv (X : VV) (p q : Nat) : VV := cev (pt X (5 + 8 * p) 8 (wc (X (5 + 8 * p) 8) q (cnt (X (5 + 8 * p) 8) q + 1))) p 1 q (cnt (X (5 + 8 * p) 8) q + 1) (X (5 + 8 * q + 3) (X (5 + 8 * p) 0 * 4 + cnt (X (5 + 8 * p) 8) q))
def cd1 (X : VV) (p lim : Nat) (r : Int32) (X' : VV) : Prop := (r = 1 ∧ ∃ q, q < 4 ∧ cdl X p lim q ∧ (∀ j, j < q → ¬ cdl X p lim j) ∧ X' = cdv X p q) ∨ (r = 0 ∧ (∀ j, j < 4 → ¬ cdl X p lim j) ∧ X' = X)
def crd (X : VV) (p com : Nat) : Prop := ∀ q, q < 4 → com / 2 ^ q % 2 = 1 → X (5 + 8 * p + 2) q / 2 ^ (X 4 (X (5 + 8 * p) 5 * 4 + q)) % 2 = 1
def cco (X : VV) (p com : Nat) : Nat → Nat
  | 0 => 0
  | q + 1 => if com / 2 ^ q % 2 = 1 ∧ X (5 + 8 * q + 5) (X 4 (X (5 + 8 * p) 5 * 4 + q)) = X (5 + 8 * p) 0 then cco X p com q ||| 2 ^ q else cco X p com q
def mx4 (a b : Nat) : Nat := pk4 (fun r => if cnt a r < cnt b r then cnt b r else cnt a r)
def cli (X : VV) (v cs : Nat) : Nat → Nat
  | 0 => 0
  | q + 1 => if cs / 2 ^ q % 2 = 1 then mx4 (cli X v cs q) (X (5 + 8 * q + 6) (X 4 (v * 4 + q))) else cli X v cs q
def cStep (X : VV) (p : Nat) (r : Int32) (X' : VV) : Prop :=
  (X (5 + 8 * p) 4 = 0 ∧ cd1 X p 67372036 r X') ∨
  (¬ X (5 + 8 * p) 4 = 0 ∧ X (5 + 8 * p) 5 = 0 ∧ r = 0 ∧ X' = X) ∨
  (¬ X (5 + 8 * p) 4 = 0 ∧ ¬ X (5 + 8 * p) 5 = 0 ∧ ¬ crd X p (X 3 (X (5 + 8 * p) 5) &&& cps X p) ∧ r = 0 ∧ X' = X) ∨
  (¬ X (5 + 8 * p) 4 = 0 ∧ ¬ X (5 + 8 * p) 5 = 0 ∧ crd X p (X 3 (X (5 + 8 * p) 5) &&& cps X p) ∧
    ((r = 1 ∧ cd1 X p (cli X (X (5 + 8 * p) 5) (cco X p (X 3 (X (5 + 8 * p) 5) &&& cps X p) 4) 4) 1 X') ∨
     (cd1 X p (cli X (X (5 + 8 * p) 5) (cco X p (X 3 (X (5 + 8 * p) 5) &&& cps X p) 4) 4) 0 X ∧
       ((¬ X (5 + 8 * p) 8 = cli X (X (5 + 8 * p) 5) (cco X p (X 3 (X (5 + 8 * p) 5) &&& cps X p) 4) 4 ∧ r = 0 ∧ X' = X) ∨
        (X (5 + 8 * p) 8 = cli X (X (5 + 8 * p) 5) (cco X p (X 3 (X (5 + 8 * p) 5) &&& cps X p) 4) 4 ∧ r = 2 ∧ X' = cen (cev X p 2 (X (5 + 8 * p) 5) (X 3 (X (5 + 8 * p) 5)) (cco X p (X 3 (X (5 + 8 * p) 5) &&& cps X p) 4)) p)))))
-- the reference
def rpo (Y : VV) (p set x : Nat) : Nat → VV
  | 0 => Y
  | q + 1 => if q ≠ p ∧ ¬ set / 2 ^ q % 2 = 0 then pt (pt (rpo Y p set x q) 88 (80 * (4 * p + q) + rpo Y p set x q 89 (4 * p + q)) x) 89 (4 * p + q) (rpo Y p set x q 89 (4 * p + q) + 1) else rpo Y p set x q
def rps (Y : VV) (p : Nat) : Nat := if Y 70 p = 0 then 2 ^ p else Y 80 (Y 70 p)
def rvc (Y : VV) (p m : Nat) : Nat → VV
  | 0 => Y
  | r + 1 => pt (rvc Y p m r) 83 (4 * m + r) (if r = p then 0 else Y 78 (4 * p + r))
def rSend (Y : VV) (p x : Nat) : Int32 × VV :=
  if ¬ Y 74 p = 0 then (-2, Y) else if Y 77 p = 4 then (-3, Y) else
  (nI (Y 77 p + 1), rpo (pt (rvc (pt (pt Y 77 p (Y 77 p + 1)) 82 (16 * Y 70 p + 4 * p + Y 77 p) x) p (16 * Y 70 p + 4 * p + Y 77 p) 4) 84 (256 * p + (16 * Y 70 p + 4 * p + Y 77 p)) 1) p (rps Y p) (16 * Y 70 p + 4 * p + Y 77 p) 4)
def rct (Y : VV) (p s : Nat) : Nat → VV
  | 0 => Y
  | r + 1 => pt (rct Y p s r) 86 (4 * s + r) (if r = p then Y 77 p else Y 78 (4 * p + r))
def rChange (Y : VV) (p set : Nat) : Int32 × VV :=
  if ¬ (1 ≤ set ∧ set ≤ 15 ∧ ¬ set / 2 ^ p % 2 = 0) then (-2, Y) else if Y 71 p = 15 then (-3, Y) else
  (nI (Y 71 p + 1), rpo (pt (rct (pt (pt (pt (pt (pt (pt Y 71 p (Y 71 p + 1)) 72 p set) 74 p 1) 75 p 0) 73 p 1) 85 (16 * p + (Y 71 p + 1)) (Y 70 p)) p (16 * p + (Y 71 p + 1)) 4) 87 (64 * p + (16 * p + (Y 71 p + 1))) 1) p set (256 + (16 * p + (Y 71 p + 1))) 4)
def rfm (Y : VV) (set : Nat) : Prop := ∀ q, q < 4 → set / 2 ^ q % 2 = 1 → ¬ Y 73 q = 0 ∧ set &&& Y 72 q = set
def rfo (Y : VV) (set n : Nat) : Nat → VV
  | 0 => Y
  | q + 1 => if ¬ set / 2 ^ q % 2 = 0 then pt (pt (rfo Y set n q) 81 (4 * n + q) (rfo Y set n q 71 q)) 73 q 0 else rfo Y set n q
def rTell (Y : VV) (p v : Nat) : Int32 × VV :=
  if ¬ (1 ≤ v ∧ v ≤ Y 69 10 ∧ ¬ Y 80 v / 2 ^ p % 2 = 0) then (-2, Y) else if v ≤ Y 76 p then (-3, Y) else if ¬ Y 81 (4 * v + p) = Y 71 p then (-4, Y) else
  (0, pt (pt Y 76 p v) 75 p v)
def rsh (Y : VV) (i : Nat) : Nat → VV
  | 0 => Y
  | k + 1 => pt (rsh Y i k) 88 (80 * i + k) (rsh Y i k 88 (80 * i + k + 1))
def rkn (Y : VV) (b : Nat) : Nat → VV
  | 0 => Y
  | n + 1 => pt (rkn Y b n) 84 (b + n) 1
def rkl (Y : VV) (q s : Nat) : Nat → VV
  | 0 => Y
  | r + 1 => rkn (rkl Y q s r) (256 * q + 16 * Y 85 s + 4 * r) (Y 86 (4 * s + r))
def rCarry (Y : VV) (p q : Nat) : Int32 × VV :=
  if Y 89 (4 * p + q) = 0 then (0, Y) else
  if Y 88 (80 * (4 * p + q)) < 256 then (1, pt (rsh (pt Y 89 (4 * p + q) (Y 89 (4 * p + q) - 1)) (4 * p + q) (Y 89 (4 * p + q) - 1)) 84 (256 * q + Y 88 (80 * (4 * p + q))) 1)
  else if Y 85 (Y 88 (80 * (4 * p + q)) - 256) = 0 then (2, pt (rsh (pt Y 89 (4 * p + q) (Y 89 (4 * p + q) - 1)) (4 * p + q) (Y 89 (4 * p + q) - 1)) 87 (64 * q + (Y 88 (80 * (4 * p + q)) - 256)) 1)
  else (2, rkl (pt (rsh (pt Y 89 (4 * p + q) (Y 89 (4 * p + q) - 1)) (4 * p + q) (Y 89 (4 * p + q) - 1)) 87 (64 * q + (Y 88 (80 * (4 * p + q)) - 256)) 1) q (Y 88 (80 * (4 * p + q)) - 256) 4)
def rl0 (Y : VV) (x : Nat) : Nat → VV
  | 0 => Y
  | r + 1 => pt (rl0 Y x r) 90 r x
def rlr (U : VV) (s : Nat) : Nat → VV
  | 0 => U
  | r + 1 => if rlr U s r 90 r < U 86 (4 * s + r) then pt (rlr U s r) 90 r (U 86 (4 * s + r)) else rlr U s r
def rlq (Y : VV) (p v both : Nat) : Nat → VV
  | 0 => Y
  | q + 1 => if both / 2 ^ q % 2 = 0 ∨ ¬ Y 85 (16 * q + Y 81 (4 * v + q)) = Y 70 p ∨ (Y 70 p = 0 ∧ ¬ q = p) then rlq Y p v both q else rlr (pt (rlq Y p v both q) 69 22 (rlq Y p v both q 69 22 ||| 2 ^ q)) (16 * q + Y 81 (4 * v + q)) 4
def rrd (Y : VV) (p v both : Nat) : Prop := ∀ q, q < 4 → ¬ both / 2 ^ q % 2 = 0 → ¬ Y 87 (64 * p + (16 * q + Y 81 (4 * v + q))) = 0
/-- the same but for what limits() writes -/
def rsm (Y Y' : VV) : Prop := ∀ c k, c ≠ 90 → ¬ (c = 69 ∧ k = 22) → Y' c k = Y c k
def rdl (Y : VV) (p q : Nat) : Prop := Y 78 (4 * p + q) < Y 90 q ∧ ¬ Y 84 (256 * p + (16 * Y 70 p + 4 * q + Y 78 (4 * p + q))) = 0 ∧ ∀ r, r < 4 → ¬ r = q → Y 83 (4 * (16 * Y 70 p + 4 * q + Y 78 (4 * p + q)) + r) ≤ Y 78 (4 * p + r)
def rev (Y : VV) (p a b c d : Nat) : VV := pt (pt (pt (pt Y 79 (4 * p) a) 79 (4 * p + 1) b) 79 (4 * p + 2) c) 79 (4 * p + 3) d
def rdv (Y : VV) (p q : Nat) : VV := rev (pt Y 78 (4 * p + q) (Y 78 (4 * p + q) + 1)) p 1 q (Y 78 (4 * p + q) + 1) (Y 82 (16 * Y 70 p + 4 * q + Y 78 (4 * p + q)))
/-- limits(p): what it answers, what it leaves -/
def rlim (Y : VV) (p : Nat) (h : Nat) (Y' : VV) : Prop :=
  (h = 1 ∧ Y 74 p = 0 ∧ Y' = rl0 (pt Y 69 22 0) 4 4) ∨
  (h = 0 ∧ ¬ Y 74 p = 0 ∧ Y 75 p = 0 ∧ rsm Y Y') ∨
  (h = 0 ∧ ¬ Y 74 p = 0 ∧ ¬ Y 75 p = 0 ∧ ¬ rrd Y p (Y 75 p) (Y 80 (Y 75 p) &&& rps Y p) ∧ rsm Y Y') ∨
  (h = 2 ∧ ¬ Y 74 p = 0 ∧ ¬ Y 75 p = 0 ∧ rrd Y p (Y 75 p) (Y 80 (Y 75 p) &&& rps Y p) ∧ Y' = rlq (rl0 (pt Y 69 22 0) 0 4) p (Y 75 p) (Y 80 (Y 75 p) &&& rps Y p) 4)
def rz4 (Y : VV) (p : Nat) : Nat → VV
  | 0 => Y
  | r + 1 => pt (rz4 Y p r) 78 (4 * p + r) 0
def rStep (Y : VV) (p : Nat) (r : Int32) (Y' : VV) : Prop := ∃ (h : Nat) (Z : VV), rlim Y p h Z ∧
  ((h = 0 ∧ r = 0 ∧ Y' = Z) ∨
   (¬ h = 0 ∧ (∃ q, q < 4 ∧ rdl Z p q ∧ (∀ j, j < q → ¬ rdl Z p j) ∧ r = 1 ∧ Y' = rdv Z p q)) ∨
   (h = 1 ∧ (∀ j, j < 4 → ¬ rdl Z p j) ∧ r = 0 ∧ Y' = Z) ∨
   (h = 2 ∧ (∀ j, j < 4 → ¬ rdl Z p j) ∧ (¬ ∀ j, j < 4 → Z 78 (4 * p + j) = Z 90 j) ∧ r = 0 ∧ Y' = Z) ∨
   (h = 2 ∧ (∀ j, j < 4 → ¬ rdl Z p j) ∧ (∀ j, j < 4 → Z 78 (4 * p + j) = Z 90 j) ∧ r = 2 ∧ Y' = rz4 (pt (pt (pt (rev (pt Z 70 p (Z 75 p)) p 2 (Z 75 p) (Z 80 (Z 75 p)) (Z 69 22)) 75 p 0) 74 p 0) 77 p 0) p 4))
def cForm (X : VV) (set : Nat) (r : Int32) (X' : VV) : Prop :=
  (¬ (1 ≤ set ∧ set ≤ 15) ∧ r = -2 ∧ X' = X) ∨ ((1 ≤ set ∧ set ≤ 15) ∧ 15 ≤ X 0 4 ∧ r = -3 ∧ X' = X) ∨ ((1 ≤ set ∧ set ≤ 15) ∧ X 0 4 < 15 ∧ ¬ cfm X set ∧ r = -4 ∧ X' = X) ∨
  ((1 ≤ set ∧ set ≤ 15) ∧ X 0 4 < 15 ∧ cfm X set ∧ r = nI (X 0 4 + 1) ∧ X' = cfo (pt (pt X 0 4 (X 0 4 + 1)) 3 (X 0 4 + 1) set) set (X 0 4 + 1) 4)
def rForm (Y : VV) (set : Nat) (r : Int32) (Y' : VV) : Prop :=
  (¬ (1 ≤ set ∧ set ≤ 15) ∧ r = -2 ∧ Y' = Y) ∨ ((1 ≤ set ∧ set ≤ 15) ∧ Y 69 10 = 15 ∧ r = -3 ∧ Y' = Y) ∨ ((1 ≤ set ∧ set ≤ 15) ∧ ¬ Y 69 10 = 15 ∧ ¬ rfm Y set ∧ r = -4 ∧ Y' = Y) ∨
  ((1 ≤ set ∧ set ≤ 15) ∧ ¬ Y 69 10 = 15 ∧ rfm Y set ∧ r = nI (Y 69 10 + 1) ∧ Y' = rfo (pt (pt Y 69 10 (Y 69 10 + 1)) 80 (Y 69 10 + 1) set) set (Y 69 10 + 1) 4)
end
section
-- what binds the class's cells (X) to the reference's (Y)
def RS (X Y : VV) : Prop := ∀ p, p < 4 → X (5 + 8 * p) 0 = Y 70 p ∧ X (5 + 8 * p) 1 = Y 71 p ∧ X (5 + 8 * p) 2 = Y 72 p ∧ X (5 + 8 * p) 3 = Y 73 p ∧ X (5 + 8 * p) 4 = Y 74 p ∧ X (5 + 8 * p) 5 = Y 75 p ∧ X (5 + 8 * p) 6 = Y 76 p ∧ X (5 + 8 * p) 7 = Y 77 p ∧ pkd (X (5 + 8 * p) 8) ∧ ∀ r, r < 4 → cnt (X (5 + 8 * p) 8) r = Y 78 (4 * p + r)
def RG (X Y : VV) : Prop := X 0 4 = Y 69 10 ∧ (∀ v, v < 16 → X 3 v = Y 80 v) ∧ ∀ v p, v < 16 → p < 4 → X 4 (v * 4 + p) = Y 81 (4 * v + p)
def RK (X Y : VV) : Prop := ∀ p v r, p < 4 → v < 16 → r < 4 → X (5 + 8 * p + 1) (v * 4 + r) < 32 ∧ X (5 + 8 * p + 1) (v * 4 + r) % 2 = 0 ∧ ∀ n, n < 4 → X (5 + 8 * p + 1) (v * 4 + r) / 2 ^ (n + 1) % 2 = Y 84 (256 * p + 16 * v + 4 * r + n)
def RH (X Y : VV) : Prop := ∀ p r, p < 4 → r < 4 → X (5 + 8 * p + 2) r < 65536 ∧ ∀ c, c < 16 → X (5 + 8 * p + 2) r / 2 ^ c % 2 = Y 87 (64 * p + 16 * r + c)
def RM (X Y : VV) : Prop := ∀ p v n, p < 4 → v < 16 → n < 4 → X (5 + 8 * p + 3) (v * 4 + n) = Y 82 (16 * v + 4 * p + n) ∧ pkd (X (5 + 8 * p + 4) (v * 4 + n)) ∧ ∀ r, r < 4 → cnt (X (5 + 8 * p + 4) (v * 4 + n)) r = Y 83 (4 * (16 * v + 4 * p + n) + r)
def RC (X Y : VV) : Prop := ∀ p c, p < 4 → c < 16 → X (5 + 8 * p + 5) c = Y 85 (16 * p + c) ∧ pkd (X (5 + 8 * p + 6) c) ∧ ∀ r, r < 4 → cnt (X (5 + 8 * p + 6) c) r = Y 86 (4 * (16 * p + c) + r)
def RE (X Y : VV) : Prop := ∀ p i, p < 4 → i < 4 → X (5 + 8 * p + 7) i = Y 79 (4 * p + i)
/-- a packet's number in the class, in the reference -/
def tr (p w : Nat) : Nat := if w < 64 then 16 * (w / 4) + 4 * p + w % 4 else 256 + (16 * p + (w - 64))
def cap (Y : VV) (p : Nat) : Nat := (if Y 70 p = 0 then 0 else 4 * (Y 70 p - 1) + Y 77 p) + Y 71 p
def RL (X Y : VV) : Prop := ∀ p q, p < 4 → q < 4 → X (37 + 2 * (p * 4 + q)) 1 ≤ X (37 + 2 * (p * 4 + q)) 2 ∧ X (37 + 2 * (p * 4 + q)) 2 ≤ cap Y p ∧ Y 89 (4 * p + q) = X (37 + 2 * (p * 4 + q)) 2 - X (37 + 2 * (p * 4 + q)) 1 ∧ ∀ k, X (37 + 2 * (p * 4 + q)) 1 ≤ k → k < X (37 + 2 * (p * 4 + q)) 2 → X (37 + 2 * (p * 4 + q) + 1) k < 80 ∧ tr p (X (37 + 2 * (p * 4 + q) + 1) k) = Y 88 (80 * (4 * p + q) + (k - X (37 + 2 * (p * 4 + q)) 1))
def BD (Y : VV) : Prop := (∀ p, p < 4 → Y 70 p ≤ Y 69 10 ∧ Y 71 p ≤ 15 ∧ Y 72 p < 16 ∧ Y 73 p ≤ 1 ∧ Y 74 p ≤ 1 ∧ Y 75 p ≤ Y 69 10 ∧ Y 76 p ≤ 15 ∧ Y 77 p ≤ 4 ∧ Y 70 p ≤ Y 76 p ∧ (Y 75 p = 0 ∨ (Y 70 p < Y 75 p ∧ Y 75 p ≤ Y 76 p))) ∧ Y 69 10 ≤ 15 ∧ (∀ i, Y 78 i ≤ 4) ∧ (∀ i, Y 80 i < 16) ∧ (∀ i, Y 81 i ≤ 15) ∧ (∀ i, Y 83 i ≤ 4) ∧ (∀ i, Y 84 i ≤ 1) ∧ (∀ i, Y 85 i ≤ 15) ∧ (∀ i, Y 86 i ≤ 4) ∧ (∀ i, Y 87 i ≤ 1) ∧ ∀ v p n, v < 16 → p < 4 → n < 4 → Y 83 (4 * (16 * v + 4 * p + n) + p) = 0
def Rel (X Y : VV) : Prop := RS X Y ∧ RG X Y ∧ RK X Y ∧ RH X Y ∧ RM X Y ∧ RC X Y ∧ RE X Y ∧ RL X Y ∧ BD Y
theorem Rel.congr {X X' Y Y' : VV} (h : Rel X Y) (hX : ∀ c k, c < 69 → X' c k = X c k) (hY : ∀ c k, 69 ≤ c → Y' c k = Y c k) : Rel X' Y' := by
  obtain ⟨h1, h2, h3, h4, h5, h6, h7, h8, h9⟩ := h
  refine ⟨?_, ?_, ?_, ?_, ?_, ?_, ?_, ?_, ?_⟩
  · intro p hp
    simp (disch := omega) only [hX, hY]
    exact h1 p hp
  · refine ⟨?_, ?_, ?_⟩
    · simp (disch := omega) only [hX, hY]
      exact h2.1
    · intro v hv
      simp (disch := omega) only [hX, hY]
      exact h2.2.1 v hv
    · intro v p hv hp
      simp (disch := omega) only [hX, hY]
      exact h2.2.2 v p hv hp
  · intro p v r hp hv hr
    simp (disch := omega) only [hX, hY]
    exact h3 p v r hp hv hr
  · intro p r hp hr
    simp (disch := omega) only [hX, hY]
    exact h4 p r hp hr
  · intro p v n hp hv hn
    simp (disch := omega) only [hX, hY]
    exact h5 p v n hp hv hn
  · intro p c hp hc
    simp (disch := omega) only [hX, hY]
    exact h6 p c hp hc
  · intro p i hp hi
    simp (disch := omega) only [hX, hY]
    exact h7 p i hp hi
  · intro p q hp hq
    simp (disch := omega) only [cap, hX, hY]
    exact h8 p q hp hq
  · unfold BD
    simp (disch := omega) only [hY]
    exact h9
-- what the class's walk needs of bounds
def CB (X : VV) : Prop := X 0 4 ≤ 15 ∧ (∀ v, v < 16 → X 3 v < 16) ∧ (∀ i, i < 64 → X 4 i ≤ 15) ∧ (∀ p, p < 4 → X (5 + 8 * p) 0 ≤ 15 ∧ X (5 + 8 * p) 1 ≤ 15 ∧ X (5 + 8 * p) 2 < 16 ∧ X (5 + 8 * p) 3 ≤ 1 ∧ X (5 + 8 * p) 4 ≤ 1 ∧ X (5 + 8 * p) 5 ≤ 15 ∧ X (5 + 8 * p) 6 ≤ 15 ∧ X (5 + 8 * p) 7 ≤ 4 ∧ pkd (X (5 + 8 * p) 8)) ∧ (∀ p i, p < 4 → i < 64 → X (5 + 8 * p + 1) i < 32) ∧ (∀ p i, p < 4 → i < 4 → X (5 + 8 * p + 2) i < 65536) ∧ (∀ p i, p < 4 → i < 64 → pkd (X (5 + 8 * p + 4) i)) ∧ (∀ p i, p < 4 → i < 16 → X (5 + 8 * p + 5) i ≤ 15) ∧ (∀ p i, p < 4 → i < 16 → pkd (X (5 + 8 * p + 6) i)) ∧ (∀ i, i < 16 → X (37 + 2 * i) 1 ≤ X (37 + 2 * i) 2 ∧ X (37 + 2 * i) 2 ≤ 75 ∧ ∀ k, X (37 + 2 * i) 1 ≤ k → k < X (37 + 2 * i) 2 → X (37 + 2 * i + 1) k < 80)
theorem cap_le {Y : VV} (h : BD Y) {p : Nat} (hp : p < 4) : cap Y p ≤ 75 := by
  have h1 := h.1 p hp
  have h2 := h.2.1
  unfold cap
  split <;> omega
theorem Rel.cb {X Y : VV} (h : Rel X Y) : CB X := by
  obtain ⟨h1, h2, h3, h4, h5, h6, h7, h8, h9⟩ := h
  refine ⟨?_, ?_, ?_, ?_, ?_, ?_, ?_, ?_, ?_, ?_⟩
  · rw [h2.1]; exact h9.2.1
  · intro v hv
    rw [h2.2.1 v hv]
    exact h9.2.2.2.1 v
  · intro i hi
    have := h2.2.2 (i / 4) (i % 4) (by omega) (by omega)
    rw [show i / 4 * 4 + i % 4 = i by omega] at this
    rw [this]
    exact h9.2.2.2.2.1 _
  · intro p hp
    obtain ⟨a0, a1, a2, a3, a4, a5, a6, a7, a8, -⟩ := h1 p hp
    obtain ⟨b0, b1, b2, b3, b4, b5, b6, b7, -⟩ := h9.1 p hp
    have := h9.2.1
    refine ⟨by omega, by omega, by omega, by omega, by omega, by omega, by omega, by omega, a8⟩
  · intro p i hp hi
    have := (h3 p (i / 4) (i % 4) hp (by omega) (by omega)).1
    rw [show i / 4 * 4 + i % 4 = i by omega] at this
    exact this
  · intro p i hp hi
    exact (h4 p i hp hi).1
  · intro p i hp hi
    have := (h5 p (i / 4) (i % 4) hp (by omega) (by omega)).2.1
    rw [show i / 4 * 4 + i % 4 = i by omega] at this
    exact this
  · intro p i hp hi
    rw [(h6 p i hp hi).1]
    exact h9.2.2.2.2.2.2.2.1 _
  · intro p i hp hi
    exact (h6 p i hp hi).2.1
  · intro i hi
    obtain ⟨a1, a2, a3, a4⟩ := h8 (i / 4) (i % 4) (by omega) (by omega)
    have hc := cap_le h9 (p := i / 4) (by omega)
    rw [show i / 4 * 4 + i % 4 = i by omega] at a1 a2 a4
    exact ⟨a1, by omega, fun k k1 k2 => (a4 k k1 k2).1⟩
end
section
-- putting a packet into the lines to the others: what each cell is afterwards
theorem cput_ne {X : VV} {i x c k : Nat} (h : c ≠ 37 + 2 * i) (h2 : c ≠ 37 + 2 * i + 1) : cput X i x c k = X c k := by
  unfold cput
  split
  · rw [pt_ne h, pt_ne h2]
  · rfl
theorem cpo_ne {X : VV} {p set x c k : Nat} (h : c < 37 ∨ 69 ≤ c) (hp : p < 4) : ∀ q, q ≤ 4 → cpo X p set x q c k = X c k
  | 0, _ => rfl
  | q + 1, hq => by
    rw [cpo]
    split
    · rw [cput_ne (by omega) (by omega), cpo_ne h hp q (by omega)]
    · exact cpo_ne h hp q (by omega)
theorem rpo_ne {Y : VV} {p set x c k : Nat} (h : c ≠ 88) (h2 : c ≠ 89) : ∀ q, rpo Y p set x q c k = Y c k
  | 0 => rfl
  | q + 1 => by
    rw [rpo]
    split
    · rw [pt_ne h2, pt_ne h, rpo_ne h h2 q]
    · exact rpo_ne h h2 q
theorem cput_line {X : VV} {i x : Nat} (h : X (37 + 2 * i) 2 < 75) : cput X i x (37 + 2 * i) 1 = X (37 + 2 * i) 1 ∧ cput X i x (37 + 2 * i) 2 = X (37 + 2 * i) 2 + 1 ∧ ∀ k, cput X i x (37 + 2 * i + 1) k = if k = X (37 + 2 * i) 2 then x else X (37 + 2 * i + 1) k := by
  unfold cput
  rw [if_pos h]
  refine ⟨?_, ?_, fun k => ?_⟩
  · rw [pt_nk (by decide), pt_ne (by omega)]
  · rw [pt_eq rfl rfl]
  · rw [pt_ne (by omega)]
    by_cases hk : k = X (37 + 2 * i) 2
    · rw [pt_eq rfl hk, if_pos hk]
    · rw [pt_nk hk, if_neg hk]
/-- the lines, with a bound for each -/
def RLc (X Y : VV) (cp : Nat → Nat → Nat) : Prop := ∀ p q, p < 4 → q < 4 → X (37 + 2 * (p * 4 + q)) 1 ≤ X (37 + 2 * (p * 4 + q)) 2 ∧ X (37 + 2 * (p * 4 + q)) 2 ≤ cp p q ∧ Y 89 (4 * p + q) = X (37 + 2 * (p * 4 + q)) 2 - X (37 + 2 * (p * 4 + q)) 1 ∧ ∀ k, X (37 + 2 * (p * 4 + q)) 1 ≤ k → k < X (37 + 2 * (p * 4 + q)) 2 → X (37 + 2 * (p * 4 + q) + 1) k < 80 ∧ tr p (X (37 + 2 * (p * 4 + q) + 1) k) = Y 88 (80 * (4 * p + q) + (k - X (37 + 2 * (p * 4 + q)) 1))
theorem put_step {X Y : VV} {cp : Nat → Nat → Nat} {p q w : Nat} (h : RLc X Y cp) (hcp : ∀ a b, a < 4 → b < 4 → cp a b ≤ 75) (hp : p < 4) (hq : q < 4) (hc : cp p q < 75) (hw : w < 80) : RLc (cput X (p * 4 + q) w) (pt (pt Y 88 (80 * (4 * p + q) + Y 89 (4 * p + q)) (tr p w)) 89 (4 * p + q) (Y 89 (4 * p + q) + 1)) (fun a b => if a = p ∧ b = q then cp a b + 1 else cp a b) := by
  obtain ⟨e1, e2, e3, e4⟩ := h p q hp hq
  obtain ⟨l1, l2, l3⟩ := cput_line (X := X) (i := p * 4 + q) (x := w) (by omega)
  intro a b ha hb
  by_cases hab : a = p ∧ b = q
  · obtain ⟨rfl, rfl⟩ := hab
    rw [l1, l2]
    refine ⟨by omega, by simp only [and_self, if_true]; omega, ?_, fun k k1 k2 => ?_⟩
    · rw [pt_eq rfl rfl, e3]; omega
    · rw [l3 k]
      by_cases hk : k = X (37 + 2 * (a * 4 + b)) 2
      · rw [if_pos hk]
        refine ⟨hw, ?_⟩
        rw [pt_ne (by decide), pt_eq rfl (by omega)]
      · rw [if_neg hk, pt_ne (by decide), pt_nk (by omega)]
        exact e4 k k1 (by omega)
  · obtain ⟨f1, f2, f3, f4⟩ := h a b ha hb
    have hne : a * 4 + b ≠ p * 4 + q := by omega
    have hb1 := hcp a b ha hb
    have hb2 := hcp p q hp hq
    rw [cput_ne (by omega) (by omega), cput_ne (by omega) (by omega)]
    refine ⟨f1, (by
      show _ ≤ (if a = p ∧ b = q then cp a b + 1 else cp a b)
      rw [if_neg hab]
      exact f2), ?_, fun k k1 k2 => ?_⟩
    · rw [pt_nk (by omega), pt_ne (by decide), f3]
    · rw [cput_ne (by omega) (by omega), pt_ne (by decide), pt_nk (by omega)]
      exact f4 k k1 k2
theorem put_all {X Y : VV} {cp : Nat → Nat → Nat} {p set w : Nat} (h : RLc X Y cp) (hp : p < 4) (hcp : ∀ a b, a < 4 → b < 4 → cp a b ≤ 75) (hc : ∀ q, q < 4 → cp p q < 75) (hw : w < 80) : ∀ q, q ≤ 4 → RLc (cpo X p set w q) (rpo Y p set (tr p w) q) (fun a b => if a = p ∧ b < q then cp a b + 1 else cp a b)
  | 0, _ => by
    simp only [cpo, rpo, Nat.not_lt_zero, and_false, if_false]
    exact h
  | q + 1, hq => by
    have ih := put_all h hp hcp hc hw q (by omega) (set := set)
    rw [cpo, rpo]
    by_cases hg : q ≠ p ∧ set / 2 ^ q % 2 = 1
    · rw [if_pos hg, if_pos ⟨hg.1, by have := hg.2; omega⟩]
      have hs := put_step ih (fun a b ha hb => by
        show (if a = p ∧ b < q then cp a b + 1 else cp a b) ≤ 75
        have h1 := hcp a b ha hb
        split
        · rename_i h2
          have := hc b hb
          rw [h2.1]; omega
        · exact h1) hp (by omega : q < 4) (w := w) (by
        show (if p = p ∧ q < q then cp p q + 1 else cp p q) < 75
        rw [if_neg (by omega)]
        exact hc q (by omega)) hw
      intro a b ha hb
      obtain ⟨s1, s2, s3⟩ := hs a b ha hb
      refine ⟨s1, Nat.le_trans s2 ?_, s3⟩
      simp only []
      split <;> split <;> split <;> omega
    · rw [if_neg hg, if_neg (fun z => hg ⟨z.1, by have := z.2; omega⟩)]
      intro a b ha hb
      obtain ⟨s1, s2, s3⟩ := ih a b ha hb
      refine ⟨s1, Nat.le_trans s2 ?_, s3⟩
      simp only []
      split <;> split <;> omega
theorem two_bit : ∀ p, p < 4 → ∀ q, q < 4 → 2 ^ p / 2 ^ q % 2 = 1 → q = p := by decide +kernel
theorem put_self {X : VV} {p w : Nat} (hp : p < 4) : ∀ q, q ≤ 4 → cpo X p (2 ^ p) w q = X
  | 0, _ => rfl
  | q + 1, hq => by
    rw [cpo, if_neg (fun z => z.1 (two_bit p hp q (by omega) z.2))]
    exact put_self hp q (by omega)
theorem rput_self {Y : VV} {p w : Nat} (hp : p < 4) : ∀ q, q ≤ 4 → rpo Y p (2 ^ p) w q = Y
  | 0, _ => rfl
  | q + 1, hq => by
    rw [rpo, if_neg (fun z => z.1 (two_bit p hp q (by omega) (by have := z.2; omega)))]
    exact rput_self hp q (by omega)
-- bits
theorem b_or {a c n : Nat} : (a ||| 2 ^ c) / 2 ^ n % 2 = if n = c then 1 else a / 2 ^ n % 2 := by
  have h : ∀ x n : Nat, x / 2 ^ n % 2 = (x.testBit n).toNat := by
    intro x n
    rw [Nat.testBit_eq_decide_div_mod_eq]
    by_cases hx : x / 2 ^ n % 2 = 1
    · simp [hx]
    · have : x / 2 ^ n % 2 = 0 := by omega
      simp [this]
  rw [h, h, Nat.testBit_or, Nat.testBit_two_pow]
  by_cases hn : n = c
  · subst hn; simp
  · have : ¬ c = n := fun e => hn e.symm
    simp [hn, this]
end
section
theorem RLc.mono {X Y : VV} {cp cp' : Nat → Nat → Nat} (h : RLc X Y cp) (hc : ∀ a b, a < 4 → b < 4 → cp a b ≤ cp' a b) : RLc X Y cp' := fun a b ha hb => ⟨(h a b ha hb).1, Nat.le_trans (h a b ha hb).2.1 (hc a b ha hb), (h a b ha hb).2.2⟩
theorem Rel.mk2 {A B X' Y' : VV} (h : RS A B ∧ RG A B ∧ RK A B ∧ RH A B ∧ RM A B ∧ RC A B ∧ RE A B ∧ BD B) (hX : ∀ c k, c < 37 → X' c k = A c k) (hY : ∀ c k, 69 ≤ c → c ≠ 88 → c ≠ 89 → Y' c k = B c k) (hL : RLc X' Y' (fun p _ => cap Y' p)) : Rel X' Y' := by
  obtain ⟨h1, h2, h3, h4, h5, h6, h7, h9⟩ := h
  refine ⟨?_, ⟨?_, ?_, ?_⟩, ?_, ?_, ?_, ?_, ?_, hL, ?_⟩
  · intro p hp
    simp (disch := omega) only [hX, hY]
    exact h1 p hp
  · simp (disch := omega) only [hX, hY]
    exact h2.1
  · intro v hv
    simp (disch := omega) only [hX, hY]
    exact h2.2.1 v hv
  · intro v p hv hp
    simp (disch := omega) only [hX, hY]
    exact h2.2.2 v p hv hp
  · intro p v r hp hv hr
    simp (disch := omega) only [hX, hY]
    exact h3 p v r hp hv hr
  · intro p r hp hr
    simp (disch := omega) only [hX, hY]
    exact h4 p r hp hr
  · intro p v n hp hv hn
    simp (disch := omega) only [hX, hY]
    exact h5 p v n hp hv hn
  · intro p c hp hc
    simp (disch := omega) only [hX, hY]
    exact h6 p c hp hc
  · intro p i hp hi
    simp (disch := omega) only [hX, hY]
    exact h7 p i hp hi
  · unfold BD
    simp (disch := omega) only [hY]
    exact h9
theorem or_lt {a c n : Nat} (ha : a < 2 ^ n) (hc : c < n) : a ||| 2 ^ c < 2 ^ n := Nat.or_lt_two_pow ha (Nat.pow_lt_pow_right (by decide) hc)
theorem rk_learn {X Y : VV} (h : RK X Y) {p v r n : Nat} (hp : p < 4) (hv : v < 16) (hr : r < 4) (hn : n < 4) : RK (cln X p v r (n + 1)) (pt Y 84 (256 * p + 16 * v + 4 * r + n) 1) := by
  intro a b d ha hb hd
  obtain ⟨g1, g2, g3⟩ := h a b d ha hb hd
  unfold cln
  by_cases e : a = p ∧ b = v ∧ d = r
  · obtain ⟨rfl, rfl, rfl⟩ := e
    rw [pt_eq rfl rfl]
    refine ⟨or_lt (n := 5) g1 (by omega), ?_, fun j hj => ?_⟩
    · have := b_or (a := X (5 + 8 * a + 1) (b * 4 + d)) (c := n + 1) (n := 0)
      rw [if_neg (by omega)] at this
      simp only [Nat.pow_zero, Nat.div_one] at this
      rw [this]
      exact g2
    · rw [b_or]
      by_cases hjn : j = n
      · subst hjn
        rw [if_pos rfl, pt_eq rfl rfl]
      · rw [if_neg (by omega), pt_nk (by omega)]
        exact g3 j hj
  · have hne : a ≠ p ∨ b * 4 + d ≠ v * 4 + r := by omega
    have hX : pt X (5 + 8 * p + 1) (v * 4 + r) (X (5 + 8 * p + 1) (v * 4 + r) ||| 2 ^ (n + 1)) (5 + 8 * a + 1) (b * 4 + d) = X (5 + 8 * a + 1) (b * 4 + d) := by
      rcases hne with z | z
      · exact pt_ne (by omega)
      · exact pt_nk z
    rw [hX]
    refine ⟨g1, g2, fun j hj => ?_⟩
    rw [pt_nk (by omega)]
    exact g3 j hj
theorem rh_learn {X Y : VV} (h : RH X Y) {p r c : Nat} (hp : p < 4) (hr : r < 4) (hc : c < 16) : RH (csy X p r c) (pt Y 87 (64 * p + 16 * r + c) 1) := by
  intro a d ha hd
  obtain ⟨g1, g3⟩ := h a d ha hd
  unfold csy
  by_cases e : a = p ∧ d = r
  · obtain ⟨rfl, rfl⟩ := e
    rw [pt_eq rfl rfl]
    refine ⟨or_lt (n := 16) g1 (by omega), fun j hj => ?_⟩
    rw [b_or]
    by_cases hjn : j = c
    · subst hjn
      rw [if_pos rfl, pt_eq rfl rfl]
    · rw [if_neg (by omega), pt_nk (by omega)]
      exact g3 j hj
  · have hX : pt X (5 + 8 * p + 2) r (X (5 + 8 * p + 2) r ||| 2 ^ c) (5 + 8 * a + 2) d = X (5 + 8 * a + 2) d := by
      by_cases z : a = p
      · exact pt_nk (fun w => e ⟨z, w⟩)
      · exact pt_ne (by omega)
    rw [hX]
    refine ⟨g1, fun j hj => ?_⟩
    rw [pt_nk (by omega)]
    exact g3 j hj
theorem RK.congr {X Y X' Y' : VV} (h : RK X Y) (hX : ∀ p k, p < 4 → X' (5 + 8 * p + 1) k = X (5 + 8 * p + 1) k) (hY : ∀ k, Y' 84 k = Y 84 k) : RK X' Y' := fun a v r ha hv hr => by
  simp (disch := omega) only [hX, hY]
  exact h a v r ha hv hr
theorem RH.congr {X Y X' Y' : VV} (h : RH X Y) (hX : ∀ p k, p < 4 → X' (5 + 8 * p + 2) k = X (5 + 8 * p + 2) k) (hY : ∀ k, Y' 87 k = Y 87 k) : RH X' Y' := fun a r ha hr => by
  simp (disch := omega) only [hX, hY]
  exact h a r ha hr
theorem cps_eq {X Y : VV} (h : Rel X Y) {p : Nat} (hp : p < 4) : cps X p = rps Y p := by
  unfold cps rps
  rw [(h.1 p hp).1]
  have := (h.2.2.2.2.2.2.2.2.1 p hp).1
  have := h.2.2.2.2.2.2.2.2.2.1
  rw [h.2.1.2.1 (Y 70 p) (by omega)]
theorem sim_tell {X Y : VV} (h : Rel X Y) {p : Nat} (hp : p < 4) (v : Nat) : (cTell X p v).1 = (rTell Y p v).1 ∧ Rel (cTell X p v).2 (rTell Y p v).2 := by
  have hR := h
  obtain ⟨h1, h2, h3, h4, h5, h6, h7, h8, h9⟩ := h
  obtain ⟨s0, s1, s2, s3, s4, s5, s6, s7, s8, s9⟩ := h1 p hp
  obtain ⟨b0, b1, b2, b3, b4, b5, b6, b7, b8, b9⟩ := h9.1 p hp
  have hv15 := h9.2.1
  unfold cTell rTell
  by_cases c1 : 1 ≤ v ∧ v ≤ Y 69 10 ∧ ¬ Y 80 v / 2 ^ p % 2 = 0
  · have e3 : X 3 v = Y 80 v := h2.2.1 v (by omega)
    have e4 : X 4 (v * 4 + p) = Y 81 (4 * v + p) := h2.2.2 v p (by omega) hp
    have c1' : 1 ≤ v ∧ v ≤ X 0 4 ∧ X 3 v / 2 ^ p % 2 = 1 := ⟨c1.1, by rw [h2.1]; exact c1.2.1, by rw [e3]; have := c1.2.2; omega⟩
    rw [if_neg (not_not_intro c1'), if_neg (not_not_intro c1), s6, e4, s1]
    by_cases c2 : v ≤ Y 76 p
    · rw [if_pos c2, if_pos c2]
      exact ⟨rfl, hR⟩
    · rw [if_neg c2, if_neg c2]
      by_cases c3 : Y 81 (4 * v + p) = Y 71 p
      · rw [if_neg (not_not_intro c3), if_neg (not_not_intro c3)]
        refine ⟨rfl, ?_, ⟨by simp (disch := omega) only [pt_eq, pt_ne, pt_nk]; exact h2.1, fun v hv => by simp (disch := omega) only [pt_eq, pt_ne, pt_nk]; exact h2.2.1 v hv, fun v b hv hb => by simp (disch := omega) only [pt_eq, pt_ne, pt_nk]; exact h2.2.2 v b hv hb⟩, fun a v r ha hv hr => by simp (disch := omega) only [pt_eq, pt_ne, pt_nk]; exact h3 a v r ha hv hr, fun a r ha hr => by simp (disch := omega) only [pt_eq, pt_ne, pt_nk]; exact h4 a r ha hr, fun a v n ha hv hn => by simp (disch := omega) only [pt_eq, pt_ne, pt_nk]; exact h5 a v n ha hv hn, fun a c ha hc => by simp (disch := omega) only [pt_eq, pt_ne, pt_nk]; exact h6 a c ha hc, fun a i ha hi => by simp (disch := omega) only [pt_eq, pt_ne, pt_nk]; exact h7 a i ha hi, fun a b ha hb => by simp (disch := omega) only [cap, pt_eq, pt_ne, pt_nk]; exact h8 a b ha hb, ?_⟩
        · intro a ha
          by_cases hap : a = p
          · subst hap
            simp (disch := omega) only [pt_eq, pt_ne, pt_nk]
            exact ⟨s0, s1, s2, s3, s4, trivial, trivial, s7, s8, s9⟩
          · simp (disch := omega) only [pt_eq, pt_ne, pt_nk]
            exact h1 a ha
        · refine ⟨fun a ha => ?_, ?_⟩
          · by_cases hap : a = p
            · subst hap
              simp (disch := omega) only [pt_eq, pt_ne, pt_nk]
              exact ⟨b0, b1, b2, b3, b4, c1.2.1, by omega, b7, by omega, Or.inr ⟨by omega, Nat.le_refl _⟩⟩
            · simp (disch := omega) only [pt_eq, pt_ne, pt_nk]
              exact h9.1 a ha
          · simp (disch := omega) only [pt_eq, pt_ne, pt_nk]
            exact h9.2
      · rw [if_pos c3, if_pos c3]
        exact ⟨rfl, hR⟩
  · have c1' : ¬ (1 ≤ v ∧ v ≤ X 0 4 ∧ X 3 v / 2 ^ p % 2 = 1) := by
      rintro ⟨z1, z2, z3⟩
      rw [h2.1] at z2
      rw [h2.2.1 v (by omega)] at z3
      exact c1 ⟨z1, z2, by omega⟩
    rw [if_pos c1', if_pos c1]
    exact ⟨rfl, hR⟩
theorem rel_start {U W : VV} (h : Rel U W) {q n : Nat} (hq : q < 4) (hn : n < 16) : Rel (pt (pt U 4 (n * 4 + q) (U (5 + 8 * q) 1)) (5 + 8 * q) 3 0) (pt (pt W 81 (4 * n + q) (W 71 q)) 73 q 0) := by
  obtain ⟨h1, h2, h3, h4, h5, h6, h7, h8, h9⟩ := h
  refine ⟨?_, ⟨by simp (disch := omega) only [pt_eq, pt_ne, pt_nk]; exact h2.1, fun v hv => by simp (disch := omega) only [pt_eq, pt_ne, pt_nk]; exact h2.2.1 v hv, fun v b hv hb => ?_⟩, fun a v r ha hv hr => by simp (disch := omega) only [pt_eq, pt_ne, pt_nk]; exact h3 a v r ha hv hr, fun a r ha hr => by simp (disch := omega) only [pt_eq, pt_ne, pt_nk]; exact h4 a r ha hr, fun a v n ha hv hn => by simp (disch := omega) only [pt_eq, pt_ne, pt_nk]; exact h5 a v n ha hv hn, fun a c ha hc => by simp (disch := omega) only [pt_eq, pt_ne, pt_nk]; exact h6 a c ha hc, fun a i ha hi => by simp (disch := omega) only [pt_eq, pt_ne, pt_nk]; exact h7 a i ha hi, fun a b ha hb => by simp (disch := omega) only [cap, pt_eq, pt_ne, pt_nk]; exact h8 a b ha hb, ?_⟩
  · intro a ha
    by_cases hap : a = q
    · subst hap
      obtain ⟨s0, s1, s2, s3, s4, s5, s6, s7, s8, s9⟩ := h1 a ha
      simp (disch := omega) only [pt_eq, pt_ne, pt_nk]
      exact ⟨s0, s1, s2, trivial, s4, s5, s6, s7, s8, s9⟩
    · simp (disch := omega) only [pt_eq, pt_ne, pt_nk]
      exact h1 a ha
  · by_cases e : v = n ∧ b = q
    · obtain ⟨rfl, rfl⟩ := e
      simp (disch := omega) only [pt_eq, pt_ne, pt_nk]
      exact (h1 b hb).2.1
    · simp (disch := omega) only [pt_eq, pt_ne, pt_nk]
      exact h2.2.2 v b hv hb
  · obtain ⟨g0, g1, g2, g3, g4, g5⟩ := h9
    refine ⟨fun a ha => ?_, ?_, ?_, ?_, ?_, ?_⟩
    · by_cases hap : a = q
      · subst hap
        obtain ⟨b0, b1, b2, b3, b4, b5⟩ := g0 a ha
        simp (disch := omega) only [pt_eq, pt_ne, pt_nk]
        exact ⟨b0, b1, b2, Nat.zero_le _, b4, b5⟩
      · simp (disch := omega) only [pt_eq, pt_ne, pt_nk]
        exact g0 a ha
    · simp (disch := omega) only [pt_eq, pt_ne, pt_nk]
      exact g1
    · simp (disch := omega) only [pt_eq, pt_ne, pt_nk]
      exact g2
    · simp (disch := omega) only [pt_eq, pt_ne, pt_nk]
      exact g3
    · intro i
      by_cases e : i = 4 * n + q
      · subst e
        simp (disch := omega) only [pt_eq, pt_ne, pt_nk]
        exact (g0 q hq).2.1
      · simp (disch := omega) only [pt_eq, pt_ne, pt_nk]
        exact g4 i
    · simp (disch := omega) only [pt_eq, pt_ne, pt_nk]
      exact g5
theorem sim_fo {U W : VV} (h : Rel U W) {set n : Nat} (hn : n < 16) : ∀ q, q ≤ 4 → Rel (cfo U set n q) (rfo W set n q)
  | 0, _ => h
  | q + 1, hq => by
    have ih := sim_fo h (set := set) hn q (by omega)
    rw [cfo, rfo]
    by_cases hg : set / 2 ^ q % 2 = 1
    · rw [if_pos hg, if_pos (by omega)]
      exact rel_start ih (by omega) hn
    · rw [if_neg hg, if_neg (by omega)]
      exact ih
theorem sim_form {X Y : VV} (h : Rel X Y) {set : Nat} {r r' : Int32} {X' Y' : VV} (hc : cForm X set r X') (hr : rForm Y set r' Y') : r = r' ∧ Rel X' Y' := by
  have hR := h
  obtain ⟨h1, h2, h3, h4, h5, h6, h7, h8, h9⟩ := h
  have hv15 := h9.2.1
  have e0 := h2.1
  have hfm : cfm X set ↔ rfm Y set := by
    unfold cfm rfm
    constructor
    · intro z q hq hb
      have := z q hq hb
      rw [(h1 q hq).2.2.1, (h1 q hq).2.2.2.1] at this
      exact this
    · intro z q hq hb
      have := z q hq hb
      rw [(h1 q hq).2.2.1, (h1 q hq).2.2.2.1]
      exact this
  unfold cForm at hc
  unfold rForm at hr
  rw [e0, hfm] at hc
  rcases hc with ⟨a1, rfl, rfl⟩ | ⟨a1, a2, rfl, rfl⟩ | ⟨a1, a2, a3, rfl, rfl⟩ | ⟨a1, a2, a3, rfl, rfl⟩ <;> rcases hr with ⟨d1, rfl, rfl⟩ | ⟨d1, d2, rfl, rfl⟩ | ⟨d1, d2, d3, rfl, rfl⟩ | ⟨d1, d2, d3, rfl, rfl⟩
  all_goals first
    | exact ⟨rfl, hR⟩
    | exact absurd d1 a1
    | exact absurd a1 d1
    | (exfalso; omega)
    | exact absurd a3 d3
    | exact absurd d3 a3
    | skip
  refine ⟨rfl, sim_fo ?_ (by omega) 4 (Nat.le_refl _)⟩
  refine ⟨fun a ha => by simp (disch := omega) only [pt_eq, pt_ne, pt_nk]; exact h1 a ha, ⟨by simp (disch := omega) only [pt_eq, pt_ne, pt_nk], fun v hv => ?_, fun v b hv hb => by simp (disch := omega) only [pt_eq, pt_ne, pt_nk]; exact h2.2.2 v b hv hb⟩, fun a v r ha hv hr => by simp (disch := omega) only [pt_eq, pt_ne, pt_nk]; exact h3 a v r ha hv hr, fun a r ha hr => by simp (disch := omega) only [pt_eq, pt_ne, pt_nk]; exact h4 a r ha hr, fun a v n ha hv hn => by simp (disch := omega) only [pt_eq, pt_ne, pt_nk]; exact h5 a v n ha hv hn, fun a c ha hc => by simp (disch := omega) only [pt_eq, pt_ne, pt_nk]; exact h6 a c ha hc, fun a i ha hi => by simp (disch := omega) only [pt_eq, pt_ne, pt_nk]; exact h7 a i ha hi, fun a b ha hb => by simp (disch := omega) only [cap, pt_eq, pt_ne, pt_nk]; exact h8 a b ha hb, ?_⟩
  · by_cases e : v = Y 69 10 + 1
    · subst e
      simp (disch := omega) only [pt_eq, pt_ne, pt_nk]
    · simp (disch := omega) only [pt_eq, pt_ne, pt_nk]
      exact h2.2.1 v hv
  · obtain ⟨g0, g1, g2, g3, g5⟩ := h9
    refine ⟨fun a ha => ?_, ?_, ?_, ?_, ?_⟩
    · obtain ⟨b0, b1, b2, b3, b4, b5, b6⟩ := g0 a ha
      simp (disch := omega) only [pt_eq, pt_ne, pt_nk]
      exact ⟨by omega, b1, b2, b3, b4, by omega, b6⟩
    · simp (disch := omega) only [pt_eq, pt_ne, pt_nk]
      omega
    · simp (disch := omega) only [pt_eq, pt_ne, pt_nk]
      exact g2
    · intro i
      by_cases e : i = Y 69 10 + 1
      · subst e
        simp (disch := omega) only [pt_eq, pt_ne, pt_nk]
        omega
      · simp (disch := omega) only [pt_eq, pt_ne, pt_nk]
        exact g3 i
    · simp (disch := omega) only [pt_eq, pt_ne, pt_nk]
      exact g5
theorem rvc_ne {Y : VV} {p m c k : Nat} (h : c ≠ 83) : ∀ q, rvc Y p m q c k = Y c k
  | 0 => rfl
  | q + 1 => by rw [rvc, pt_ne h, rvc_ne h q]
theorem rvc_at {Y : VV} {p m k : Nat} : ∀ q, rvc Y p m q 83 k = if 4 * m ≤ k ∧ k < 4 * m + q then (if k - 4 * m = p then 0 else Y 78 (4 * p + (k - 4 * m))) else Y 83 k
  | 0 => by rw [if_neg (by omega)]; rfl
  | q + 1 => by
    rw [rvc]
    by_cases e : k = 4 * m + q
    · rw [pt_eq rfl e, if_pos (show 4 * m ≤ k ∧ k < 4 * m + (q + 1) by omega), show k - 4 * m = q by omega]
    · rw [pt_nk e, rvc_at q]
      by_cases z : 4 * m ≤ k ∧ k < 4 * m + q
      · rw [if_pos z, if_pos (show 4 * m ≤ k ∧ k < 4 * m + (q + 1) by omega)]
      · rw [if_neg z, if_neg (show ¬ (4 * m ≤ k ∧ k < 4 * m + (q + 1)) by omega)]
theorem sim_send {X Y : VV} (h : Rel X Y) {p : Nat} (hp : p < 4) (x : Nat) : (cSend X p x).1 = (rSend Y p x).1 ∧ Rel (cSend X p x).2 (rSend Y p x).2 := by
  have hR := h
  have hcp := cps_eq h hp
  have hcap := fun a (ha : a < 4) => cap_le h.2.2.2.2.2.2.2.2 ha
  obtain ⟨h1, h2, h3, h4, h5, h6, h7, h8, h9⟩ := h
  obtain ⟨s0, s1, s2, s3, s4, s5, s6, s7, s8, s9⟩ := h1 p hp
  obtain ⟨b0, b1, b2, b3, b4, b5, b6, b7, b8, b9⟩ := h9.1 p hp
  have hv15 := h9.2.1
  unfold cSend rSend
  rw [s4, s7, s0, hcp]
  by_cases c1 : Y 74 p = 0
  · rw [if_neg (not_not_intro c1), if_neg (not_not_intro c1)]
    by_cases c2 : Y 77 p = 4
    · rw [if_pos (by omega), if_pos c2]
      exact ⟨rfl, hR⟩
    · rw [if_neg (by omega), if_neg c2]
      have hvv : Y 70 p < 16 := by omega
      have hss : Y 77 p < 4 := by omega
      have etr : 16 * Y 70 p + 4 * p + Y 77 p = tr p (Y 70 p * 4 + Y 77 p) := by unfold tr; rw [if_pos (by omega)]; omega
      have hk := rk_learn h3 hp hvv hp hss
      rw [show 256 * p + 16 * Y 70 p + 4 * p + Y 77 p = 256 * p + (16 * Y 70 p + 4 * p + Y 77 p) by omega] at hk
      refine ⟨rfl, Rel.mk2 ⟨?_, ?_, ?_, ?_, ?_, ?_, ?_, ?_⟩ (fun c k hc => cpo_ne (Or.inl hc) hp 4 (Nat.le_refl _)) (fun c k _ z1 z2 => rpo_ne z1 z2 4) ?_⟩
      · intro a ha
        unfold cln
        by_cases hap : a = p
        · subst hap
          simp (disch := omega) only [pt_eq, pt_ne, pt_nk, rvc_ne]
          exact ⟨s0, s1, s2, s3, s4, s5, s6, trivial, s8, s9⟩
        · simp (disch := omega) only [pt_eq, pt_ne, pt_nk, rvc_ne]
          exact h1 a ha
      · unfold cln
        refine ⟨?_, fun v hv => ?_, fun v b hv hb => ?_⟩ <;> simp (disch := omega) only [pt_eq, pt_ne, pt_nk, rvc_ne]
        · exact h2.1
        · exact h2.2.1 v hv
        · exact h2.2.2 v b hv hb
      · refine hk.congr (fun a j ha => ?_) (fun j => ?_)
        · unfold cln
          by_cases e : a = p ∧ j = Y 70 p * 4 + p
          · obtain ⟨rfl, rfl⟩ := e
            simp (disch := omega) only [pt_eq, pt_ne, pt_nk]
          · have hne : 5 + 8 * a + 1 ≠ 5 + 8 * p + 1 ∨ j ≠ Y 70 p * 4 + p := by omega
            rcases hne with z | z <;> simp (disch := omega) only [pt_ne, pt_nk]
        · by_cases e : j = 256 * p + (16 * Y 70 p + 4 * p + Y 77 p)
          · rw [pt_eq rfl e, pt_eq rfl e]
          · rw [pt_nk e, pt_nk e]
            simp (disch := omega) only [pt_ne, rvc_ne]
      · unfold cln
        intro a r ha hr
        simp (disch := omega) only [pt_eq, pt_ne, pt_nk, rvc_ne]
        exact h4 a r ha hr
      · intro a v n ha hv hn
        obtain ⟨g1, g2, g3⟩ := h5 a v n ha hv hn
        unfold cln
        by_cases e : a = p ∧ v = Y 70 p ∧ n = Y 77 p
        · obtain ⟨rfl, rfl, rfl⟩ := e
          simp (disch := omega) only [pt_eq, pt_ne, pt_nk, rvc_ne]
          refine ⟨trivial, pkd_wc s8 (Nat.zero_le _), fun r hr => ?_⟩
          rw [cnt_wc s8 (Nat.zero_le _) hr, rvc_at, if_pos (show 4 * (16 * Y 70 a + 4 * a + Y 77 a) ≤ 4 * (16 * Y 70 a + 4 * a + Y 77 a) + r ∧ 4 * (16 * Y 70 a + 4 * a + Y 77 a) + r < 4 * (16 * Y 70 a + 4 * a + Y 77 a) + 4 by omega), show 4 * (16 * Y 70 a + 4 * a + Y 77 a) + r - 4 * (16 * Y 70 a + 4 * a + Y 77 a) = r by omega, s9 r hr]
          simp (disch := omega) only [pt_ne]
        · have hne : a ≠ p ∨ v * 4 + n ≠ Y 70 p * 4 + Y 77 p := by omega
          have hm : 16 * v + 4 * a + n ≠ 16 * Y 70 p + 4 * p + Y 77 p := by omega
          have e1 : ∀ (Z : VV) (j y : Nat), (j = 3 ∨ j = 4) → pt Z (5 + 8 * p + j) (Y 70 p * 4 + Y 77 p) y (5 + 8 * a + j) (v * 4 + n) = Z (5 + 8 * a + j) (v * 4 + n) := by
            intro Z j y hj
            rcases hne with z | z
            · exact pt_ne (by omega)
            · exact pt_nk z
          have e3 := e1 (pt X (5 + 8 * p) 7 (Y 77 p + 1)) 3 x (Or.inl rfl)
          have e4 := e1 (pt (pt X (5 + 8 * p) 7 (Y 77 p + 1)) (5 + 8 * p + 3) (Y 70 p * 4 + Y 77 p) x) 4 (wc (X (5 + 8 * p) 8) p 0) (Or.inr rfl)
          refine ⟨?_, ?_, fun r hr => ?_⟩
          · rw [pt_ne (by omega), pt_ne (by omega), e3, pt_ne (by omega), pt_ne (by decide), rvc_ne (by decide), pt_nk hm, pt_ne (by decide)]
            exact g1
          · rw [pt_ne (by omega), e4, pt_ne (by omega), pt_ne (by omega)]
            exact g2
          · rw [pt_ne (by omega), e4, pt_ne (by omega), pt_ne (by omega), pt_ne (by decide), rvc_at, if_neg (by omega), pt_ne (by decide), pt_ne (by decide)]
            exact g3 r hr
      · unfold cln
        intro a c ha hc
        simp (disch := omega) only [pt_eq, pt_ne, pt_nk, rvc_ne]
        exact h6 a c ha hc
      · unfold cln
        intro a i ha hi
        simp (disch := omega) only [pt_eq, pt_ne, pt_nk, rvc_ne]
        exact h7 a i ha hi
      · obtain ⟨g0, g1, g2, g3, g4, g5, g6, g7, g8, g9, g10⟩ := h9
        refine ⟨fun a ha => ?_, ?_, ?_, ?_, ?_, fun i => ?_, fun i => ?_, ?_, ?_, ?_, fun v a n hv ha hn => ?_⟩
        · by_cases hap : a = p
          · subst hap
            simp (disch := omega) only [pt_eq, pt_ne, pt_nk, rvc_ne]
            exact ⟨b0, b1, b2, b3, b4, b5, b6, by omega, b8, b9⟩
          · simp (disch := omega) only [pt_eq, pt_ne, pt_nk, rvc_ne]
            exact g0 a ha
        · simp (disch := omega) only [pt_eq, pt_ne, pt_nk, rvc_ne]
          exact g1
        · simp (disch := omega) only [pt_eq, pt_ne, pt_nk, rvc_ne]
          exact g2
        · simp (disch := omega) only [pt_eq, pt_ne, pt_nk, rvc_ne]
          exact g3
        · simp (disch := omega) only [pt_eq, pt_ne, pt_nk, rvc_ne]
          exact g4
        · rw [pt_ne (by decide), rvc_at]
          simp (disch := omega) only [pt_ne]
          split
          · split
            · omega
            · exact g2 _
          · exact g5 i
        · by_cases e : i = 256 * p + (16 * Y 70 p + 4 * p + Y 77 p)
          · rw [pt_eq rfl e]; exact Nat.le_refl _
          · rw [pt_nk e]
            simp (disch := omega) only [pt_ne, rvc_ne]
            exact g6 i
        · simp (disch := omega) only [pt_eq, pt_ne, pt_nk, rvc_ne]
          exact g7
        · simp (disch := omega) only [pt_eq, pt_ne, pt_nk, rvc_ne]
          exact g8
        · simp (disch := omega) only [pt_eq, pt_ne, pt_nk, rvc_ne]
          exact g9
        · rw [pt_ne (by decide), rvc_at]
          simp (disch := omega) only [pt_ne]
          by_cases z : 4 * (16 * Y 70 p + 4 * p + Y 77 p) ≤ 4 * (16 * v + 4 * a + n) + a ∧ 4 * (16 * v + 4 * a + n) + a < 4 * (16 * Y 70 p + 4 * p + Y 77 p) + 4
          · have y1 : 16 * v + 4 * a + n = 16 * Y 70 p + 4 * p + Y 77 p := by omega
            have y2 : a = p := by omega
            rw [if_pos z, if_pos (by omega)]
          · rw [if_neg z]
            exact g10 v a n hv ha hn
      · have hL : RLc (cln (pt (pt (pt X (5 + 8 * p) 7 (Y 77 p + 1)) (5 + 8 * p + 3) (Y 70 p * 4 + Y 77 p) x) (5 + 8 * p + 4) (Y 70 p * 4 + Y 77 p) (wc (X (5 + 8 * p) 8) p 0)) p (Y 70 p) p (Y 77 p + 1)) (pt (rvc (pt (pt Y 77 p (Y 77 p + 1)) 82 (16 * Y 70 p + 4 * p + Y 77 p) x) p (16 * Y 70 p + 4 * p + Y 77 p) 4) 84 (256 * p + (16 * Y 70 p + 4 * p + Y 77 p)) 1) (fun a _ => cap Y a) := by
          unfold cln
          intro a b ha hb
          simp (disch := omega) only [pt_eq, pt_ne, pt_nk, rvc_ne]
          exact h8 a b ha hb
        by_cases hv0 : Y 70 p = 0
        · have hps : rps Y p = 2 ^ p := by unfold rps; rw [if_pos hv0]
          rw [hps, put_self hp 4 (Nat.le_refl _), rput_self hp 4 (Nat.le_refl _)]
          refine hL.mono (fun a b ha hb => ?_)
          by_cases hap : a = p
          · subst hap
            simp (disch := omega) only [cap, pt_eq, pt_ne, pt_nk, rvc_ne]
            rw [if_pos hv0, if_pos hv0]
            exact Nat.le_refl _
          · simp (disch := omega) only [cap, pt_eq, pt_ne, pt_nk, rvc_ne]
            exact Nat.le_refl _
        · have hl75 : cap Y p < 75 := by unfold cap; rw [if_neg hv0]; omega
          have ha := put_all (set := rps Y p) (w := Y 70 p * 4 + Y 77 p) hL hp (fun a b ha _ => hcap a ha) (fun _ _ => hl75) (by omega) 4 (Nat.le_refl _)
          rw [← etr] at ha
          refine ha.mono (fun a b ha hb => ?_)
          by_cases hap : a = p
          · subst hap
            rw [if_pos ⟨rfl, hb⟩]
            simp (disch := omega) only [cap, rpo_ne, pt_eq, pt_ne, pt_nk, rvc_ne]
            rw [if_neg hv0, if_neg hv0]
            omega
          · rw [if_neg (fun z => hap z.1)]
            simp (disch := omega) only [cap, rpo_ne, pt_eq, pt_ne, pt_nk, rvc_ne]
            exact Nat.le_refl _
  · rw [if_pos c1, if_pos c1]
    exact ⟨rfl, hR⟩
end
section
theorem rct_ne {Y : VV} {p m c k : Nat} (h : c ≠ 86) : ∀ q, rct Y p m q c k = Y c k
  | 0 => rfl
  | q + 1 => by rw [rct, pt_ne h, rct_ne h q]
theorem rct_at {Y : VV} {p m k : Nat} : ∀ q, rct Y p m q 86 k = if 4 * m ≤ k ∧ k < 4 * m + q then (if k - 4 * m = p then Y 77 p else Y 78 (4 * p + (k - 4 * m))) else Y 86 k
  | 0 => by rw [if_neg (by omega)]; rfl
  | q + 1 => by
    rw [rct]
    by_cases e : k = 4 * m + q
    · rw [pt_eq rfl e, if_pos (show 4 * m ≤ k ∧ k < 4 * m + (q + 1) by omega), show k - 4 * m = q by omega]
    · rw [pt_nk e, rct_at q]
      by_cases z : 4 * m ≤ k ∧ k < 4 * m + q
      · rw [if_pos z, if_pos (show 4 * m ≤ k ∧ k < 4 * m + (q + 1) by omega)]
      · rw [if_neg z, if_neg (show ¬ (4 * m ≤ k ∧ k < 4 * m + (q + 1)) by omega)]
theorem sim_change {X Y : VV} (h : Rel X Y) {p : Nat} (hp : p < 4) (set : Nat) : (cChange X p set).1 = (rChange Y p set).1 ∧ Rel (cChange X p set).2 (rChange Y p set).2 := by
  have hR := h
  have hcap := fun a (ha : a < 4) => cap_le h.2.2.2.2.2.2.2.2 ha
  obtain ⟨h1, h2, h3, h4, h5, h6, h7, h8, h9⟩ := h
  obtain ⟨s0, s1, s2, s3, s4, s5, s6, s7, s8, s9⟩ := h1 p hp
  obtain ⟨b0, b1, b2, b3, b4, b5, b6, b7, b8, b9⟩ := h9.1 p hp
  have hv15 := h9.2.1
  unfold cChange rChange
  rw [s1, s7, s0]
  by_cases c1 : 1 ≤ set ∧ set ≤ 15 ∧ set / 2 ^ p % 2 = 1
  · rw [if_neg (not_not_intro c1), if_neg (not_not_intro (show 1 ≤ set ∧ set ≤ 15 ∧ ¬ set / 2 ^ p % 2 = 0 from ⟨c1.1, c1.2.1, by have := c1.2.2; omega⟩))]
    by_cases c2 : Y 71 p = 15
    · rw [if_pos (by omega), if_pos c2]
      exact ⟨rfl, hR⟩
    · rw [if_neg (by omega), if_neg c2]
      have hnn : Y 71 p + 1 < 16 := by omega
      have etr : 256 + (16 * p + (Y 71 p + 1)) = tr p (64 + (Y 71 p + 1)) := by unfold tr; rw [if_neg (by omega)]; omega
      have hk := rh_learn h4 hp hp hnn
      rw [show 64 * p + 16 * p + (Y 71 p + 1) = 64 * p + (16 * p + (Y 71 p + 1)) by omega] at hk
      refine ⟨rfl, Rel.mk2 ⟨?_, ?_, ?_, ?_, ?_, ?_, ?_, ?_⟩ (fun c k hc => cpo_ne (Or.inl hc) hp 4 (Nat.le_refl _)) (fun c k _ z1 z2 => rpo_ne z1 z2 4) ?_⟩
      · intro a ha
        unfold csy
        by_cases hap : a = p
        · subst hap
          simp (disch := omega) only [pt_eq, pt_ne, pt_nk, rct_ne]
          exact ⟨s0, trivial, trivial, trivial, trivial, trivial, s6, s7, s8, s9⟩
        · simp (disch := omega) only [pt_eq, pt_ne, pt_nk, rct_ne]
          exact h1 a ha
      · unfold csy
        refine ⟨?_, fun v hv => ?_, fun v b hv hb => ?_⟩ <;> simp (disch := omega) only [pt_eq, pt_ne, pt_nk, rct_ne]
        · exact h2.1
        · exact h2.2.1 v hv
        · exact h2.2.2 v b hv hb
      · unfold csy
        intro a v r ha hv hr
        simp (disch := omega) only [pt_eq, pt_ne, pt_nk, rct_ne]
        exact h3 a v r ha hv hr
      · refine hk.congr (fun a j ha => ?_) (fun j => ?_)
        · unfold csy
          by_cases e : a = p ∧ j = p
          · obtain ⟨rfl, rfl⟩ := e
            simp (disch := omega) only [pt_eq, pt_ne, pt_nk, rct_ne]
          · have hne : 5 + 8 * a + 2 ≠ 5 + 8 * p + 2 ∨ j ≠ p := by omega
            rcases hne with z | z <;> simp (disch := omega) only [pt_ne, pt_nk]
        · by_cases e : j = 64 * p + (16 * p + (Y 71 p + 1))
          · rw [pt_eq rfl e, pt_eq rfl e]
          · rw [pt_nk e, pt_nk e]
            simp (disch := omega) only [pt_ne, rct_ne]
      · unfold csy
        intro a v n ha hv hn
        simp (disch := omega) only [pt_eq, pt_ne, pt_nk, rct_ne]
        exact h5 a v n ha hv hn
      · intro a c ha hc
        obtain ⟨g1, g2, g3⟩ := h6 a c ha hc
        unfold csy
        by_cases e : a = p ∧ c = Y 71 p + 1
        · obtain ⟨rfl, rfl⟩ := e
          simp (disch := omega) only [pt_eq, pt_ne, pt_nk, rct_ne]
          refine ⟨trivial, pkd_wc s8 b7, fun r hr => ?_⟩
          rw [cnt_wc s8 b7 hr, rct_at, if_pos (show 4 * (16 * a + (Y 71 a + 1)) ≤ 4 * (16 * a + (Y 71 a + 1)) + r ∧ 4 * (16 * a + (Y 71 a + 1)) + r < 4 * (16 * a + (Y 71 a + 1)) + 4 by omega), show 4 * (16 * a + (Y 71 a + 1)) + r - 4 * (16 * a + (Y 71 a + 1)) = r by omega, s9 r hr]
          simp (disch := omega) only [pt_ne]
        · have hne : a ≠ p ∨ c ≠ Y 71 p + 1 := by omega
          have hm : 16 * a + c ≠ 16 * p + (Y 71 p + 1) := by omega
          have e1 : ∀ (Z : VV) (j y : Nat), pt Z (5 + 8 * p + j) (Y 71 p + 1) y (5 + 8 * a + j) c = Z (5 + 8 * a + j) c := by
            intro Z j y
            rcases hne with z | z
            · exact pt_ne (by omega)
            · exact pt_nk z
          refine ⟨?_, ?_, fun r hr => ?_⟩
          · rw [pt_ne (by omega), pt_ne (by omega), e1, pt_ne (by omega), pt_ne (by omega), pt_ne (by omega), pt_ne (by omega), pt_ne (by omega), pt_ne (by decide), rct_ne (by decide), pt_nk hm, pt_ne (by decide), pt_ne (by decide), pt_ne (by decide), pt_ne (by decide), pt_ne (by decide)]
            exact g1
          · rw [pt_ne (by omega), e1, pt_ne (by omega), pt_ne (by omega), pt_ne (by omega), pt_ne (by omega), pt_ne (by omega), pt_ne (by omega)]
            exact g2
          · rw [pt_ne (by omega), e1, pt_ne (by omega), pt_ne (by omega), pt_ne (by omega), pt_ne (by omega), pt_ne (by omega), pt_ne (by omega), pt_ne (by decide), rct_at, if_neg (by omega), pt_ne (by decide), pt_ne (by decide), pt_ne (by decide), pt_ne (by decide), pt_ne (by decide), pt_ne (by decide)]
            exact g3 r hr
      · unfold csy
        intro a i ha hi
        simp (disch := omega) only [pt_eq, pt_ne, pt_nk, rct_ne]
        exact h7 a i ha hi
      · obtain ⟨g0, g1, g2, g3, g4, g5, g6, g7, g8, g9, g10⟩ := h9
        refine ⟨fun a ha => ?_, ?_, ?_, ?_, ?_, ?_, ?_, fun i => ?_, fun i => ?_, fun i => ?_, ?_⟩
        · by_cases hap : a = p
          · subst hap
            simp (disch := omega) only [pt_eq, pt_ne, pt_nk, rct_ne]
            exact ⟨b0, by omega, by omega, Nat.le_refl _, Nat.le_refl _, Nat.zero_le _, b6, b7, b8, Or.inl trivial⟩
          · simp (disch := omega) only [pt_eq, pt_ne, pt_nk, rct_ne]
            exact g0 a ha
        · simp (disch := omega) only [pt_eq, pt_ne, pt_nk, rct_ne]
          exact g1
        · simp (disch := omega) only [pt_eq, pt_ne, pt_nk, rct_ne]
          exact g2
        · simp (disch := omega) only [pt_eq, pt_ne, pt_nk, rct_ne]
          exact g3
        · simp (disch := omega) only [pt_eq, pt_ne, pt_nk, rct_ne]
          exact g4
        · simp (disch := omega) only [pt_eq, pt_ne, pt_nk, rct_ne]
          exact g5
        · simp (disch := omega) only [pt_eq, pt_ne, pt_nk, rct_ne]
          exact g6
        · by_cases e : i = 16 * p + (Y 71 p + 1)
          · subst e
            simp (disch := omega) only [pt_eq, pt_ne, pt_nk, rct_ne]
            omega
          · simp (disch := omega) only [pt_eq, pt_ne, pt_nk, rct_ne]
            exact g7 i
        · rw [pt_ne (by decide), rct_at]
          simp (disch := omega) only [pt_ne]
          split
          · split
            · exact b7
            · exact g2 _
          · exact g8 i
        · by_cases e : i = 64 * p + (16 * p + (Y 71 p + 1))
          · rw [pt_eq rfl e]; exact Nat.le_refl _
          · rw [pt_nk e]
            simp (disch := omega) only [pt_ne, rct_ne]
            exact g9 i
        · simp (disch := omega) only [pt_eq, pt_ne, pt_nk, rct_ne]
          exact g10
      · have hL : RLc (csy (pt (pt (pt (pt (pt (pt (pt X (5 + 8 * p) 1 (Y 71 p + 1)) (5 + 8 * p) 2 set) (5 + 8 * p) 4 1) (5 + 8 * p) 3 1) (5 + 8 * p) 5 0) (5 + 8 * p + 5) (Y 71 p + 1) (Y 70 p)) (5 + 8 * p + 6) (Y 71 p + 1) (wc (X (5 + 8 * p) 8) p (Y 77 p))) p p (Y 71 p + 1)) (pt (rct (pt (pt (pt (pt (pt (pt Y 71 p (Y 71 p + 1)) 72 p set) 74 p 1) 75 p 0) 73 p 1) 85 (16 * p + (Y 71 p + 1)) (Y 70 p)) p (16 * p + (Y 71 p + 1)) 4) 87 (64 * p + (16 * p + (Y 71 p + 1))) 1) (fun a _ => cap Y a) := by
          unfold csy
          intro a b ha hb
          simp (disch := omega) only [pt_eq, pt_ne, pt_nk, rct_ne]
          exact h8 a b ha hb
        have hl75 : cap Y p < 75 := by unfold cap; split <;> omega
        have ha := put_all (set := set) (w := 64 + (Y 71 p + 1)) hL hp (fun a b ha _ => hcap a ha) (fun _ _ => hl75) (by omega) 4 (Nat.le_refl _)
        rw [← etr] at ha
        refine ha.mono (fun a b ha hb => ?_)
        by_cases hap : a = p
        · subst hap
          rw [if_pos ⟨rfl, hb⟩]
          simp (disch := omega) only [cap, rpo_ne, pt_eq, pt_ne, pt_nk, rct_ne]
          omega
        · rw [if_neg (fun z => hap z.1)]
          simp (disch := omega) only [cap, rpo_ne, pt_eq, pt_ne, pt_nk, rct_ne]
          exact Nat.le_refl _
  · rw [if_pos c1, if_pos (fun z => c1 ⟨z.1, z.2.1, by have := z.2.2; omega⟩)]
    exact ⟨rfl, hR⟩
theorem rsh_ne {Y : VV} {i c k : Nat} (h : c ≠ 88) : ∀ n, rsh Y i n c k = Y c k
  | 0 => rfl
  | n + 1 => by rw [rsh, pt_ne h, rsh_ne h n]
theorem rsh_at {Y : VV} {i k : Nat} : ∀ n, rsh Y i n 88 k = if 80 * i ≤ k ∧ k < 80 * i + n then Y 88 (k + 1) else Y 88 k
  | 0 => by rw [if_neg (by omega)]; rfl
  | n + 1 => by
    rw [rsh]
    by_cases e : k = 80 * i + n
    · rw [pt_eq rfl e, rsh_at n, if_neg (by omega), if_pos (by omega), e]
    · rw [pt_nk e, rsh_at n]
      by_cases z : 80 * i ≤ k ∧ k < 80 * i + n
      · rw [if_pos z, if_pos (by omega)]
      · rw [if_neg z, if_neg (by omega)]
theorem crn_ne {X : VV} {q v r c k : Nat} (h : c ≠ 5 + 8 * q + 1) : ∀ n, crn X q v r n c k = X c k
  | 0 => rfl
  | n + 1 => by rw [crn, cln, pt_ne h, crn_ne h n]
theorem crl_ne {X : VV} {q v cut c k : Nat} (h : c ≠ 5 + 8 * q + 1) : ∀ r, crl X q v cut r c k = X c k
  | 0 => rfl
  | r + 1 => by rw [crl, crn_ne h, crl_ne h r]
theorem rkn_ne {Y : VV} {b c k : Nat} (h : c ≠ 84) : ∀ n, rkn Y b n c k = Y c k
  | 0 => rfl
  | n + 1 => by rw [rkn, pt_ne h, rkn_ne h n]
theorem rkl_ne {Y : VV} {q s c k : Nat} (h : c ≠ 84) : ∀ n, rkl Y q s n c k = Y c k
  | 0 => rfl
  | n + 1 => by rw [rkl, rkn_ne h, rkl_ne h n]
theorem rkn_le {Y : VV} (h : ∀ i, Y 84 i ≤ 1) {b : Nat} : ∀ n i, rkn Y b n 84 i ≤ 1
  | 0, i => h i
  | n + 1, i => by
    rw [rkn]
    by_cases e : i = b + n
    · rw [pt_eq rfl e]; exact Nat.le_refl _
    · rw [pt_nk e]; exact rkn_le h n i
theorem rkl_le {Y : VV} (h : ∀ i, Y 84 i ≤ 1) {q s : Nat} : ∀ n i, rkl Y q s n 84 i ≤ 1
  | 0, i => h i
  | n + 1, i => by rw [rkl]; exact rkn_le (rkl_le h n) _ i
theorem rk_n {X Y : VV} (h : RK X Y) {q v r : Nat} (hq : q < 4) (hv : v < 16) (hr : r < 4) : ∀ n, n ≤ 4 → RK (crn X q v r n) (rkn Y (256 * q + 16 * v + 4 * r) n)
  | 0, _ => h
  | n + 1, hn => by
    rw [crn, rkn]
    exact rk_learn (rk_n h hq hv hr n (by omega)) hq hv hr (by omega)
theorem rk_l {X Y : VV} (h : RK X Y) {q s cut : Nat} (hq : q < 4) (hv : Y 85 s < 16) (hc : ∀ r, r < 4 → cnt cut r = Y 86 (4 * s + r)) (h4 : ∀ i, Y 86 i ≤ 4) : ∀ r, r ≤ 4 → RK (crl X q (Y 85 s) cut r) (rkl Y q s r)
  | 0, _ => h
  | r + 1, hr => by
    rw [crl, rkl, hc r (by omega)]
    exact rk_n (rk_l h hq hv hc h4 r (by omega)) hq hv (by omega) _ (h4 _)
theorem sim_take {X Y : VV} (h : Rel X Y) {p q : Nat} (hp : p < 4) (hq : q < 4) (hne : X (37 + 2 * (p * 4 + q)) 1 < X (37 + 2 * (p * 4 + q)) 2) : Rel (pt X (37 + 2 * (p * 4 + q)) 1 (X (37 + 2 * (p * 4 + q)) 1 + 1)) (rsh (pt Y 89 (4 * p + q) (Y 89 (4 * p + q) - 1)) (4 * p + q) (Y 89 (4 * p + q) - 1)) := by
  have hcap := fun a (ha : a < 4) => cap_le h.2.2.2.2.2.2.2.2 ha
  obtain ⟨h1, h2, h3, h4, h5, h6, h7, h8, h9⟩ := h
  refine Rel.mk2 (A := X) (B := Y) ⟨h1, h2, h3, h4, h5, h6, h7, h9⟩ (fun c k hc => pt_ne (by omega)) (fun c k _ z1 z2 => by rw [rsh_ne z1, pt_ne z2]) ?_
  intro a b ha hb
  obtain ⟨f1, f2, f3, f4⟩ := h8 a b ha hb
  obtain ⟨e1, e2, e3, e4⟩ := h8 p q hp hq
  have hca := hcap a ha
  have hcp := hcap p hp
  have hcc : cap (rsh (pt Y 89 (4 * p + q) (Y 89 (4 * p + q) - 1)) (4 * p + q) (Y 89 (4 * p + q) - 1)) a = cap Y a := by
    simp (disch := omega) only [cap, rsh_ne, pt_ne]
  dsimp only
  rw [hcc]
  by_cases hab : a = p ∧ b = q
  · obtain ⟨rfl, rfl⟩ := hab
    rw [pt_eq rfl rfl, pt_nk (by decide)]
    refine ⟨by omega, f2, ?_, fun k k1 k2 => ?_⟩
    · rw [rsh_ne (by decide), pt_eq rfl rfl]; omega
    · rw [pt_ne (by omega), rsh_at, if_pos (by omega), pt_ne (by decide)]
      have := f4 k (by omega) k2
      rw [show 80 * (4 * a + b) + (k - (X (37 + 2 * (a * 4 + b)) 1 + 1)) + 1 = 80 * (4 * a + b) + (k - X (37 + 2 * (a * 4 + b)) 1) by omega]
      exact this
  · have hne2 : a * 4 + b ≠ p * 4 + q := by omega
    rw [pt_ne (by omega), pt_ne (by omega)]
    refine ⟨f1, f2, ?_, fun k k1 k2 => ?_⟩
    · rw [rsh_ne (by decide), pt_nk (by omega)]; exact f3
    · rw [pt_ne (by omega), rsh_at, if_neg (by omega), pt_ne (by decide)]
      exact f4 k k1 k2
theorem sim_carry {X Y : VV} (h : Rel X Y) {p q : Nat} (hp : p < 4) (hq : q < 4) : (cCarry X p q).1 = (rCarry Y p q).1 ∧ Rel (cCarry X p q).2 (rCarry Y p q).2 := by
  have hR := h
  obtain ⟨h1, h2, h3, h4, h5, h6, h7, h8, h9⟩ := h
  obtain ⟨e1, e2, e3, e4⟩ := h8 p q hp hq
  unfold cCarry rCarry
  by_cases c1 : X (37 + 2 * (p * 4 + q)) 2 ≤ X (37 + 2 * (p * 4 + q)) 1
  · rw [if_pos c1, if_pos (by omega)]
    exact ⟨rfl, hR⟩
  · rw [if_neg c1, if_neg (show ¬ Y 89 (4 * p + q) = 0 by omega)]
    have ht := sim_take hR hp hq (by omega)
    obtain ⟨w1, w2⟩ := e4 (X (37 + 2 * (p * 4 + q)) 1) (Nat.le_refl _) (by omega)
    simp only [Nat.sub_self, Nat.add_zero] at w2
    have t85 : ∀ k, rsh (pt Y 89 (4 * p + q) (Y 89 (4 * p + q) - 1)) (4 * p + q) (Y 89 (4 * p + q) - 1) 85 k = Y 85 k := fun k => by rw [rsh_ne (by decide), pt_ne (by decide)]
    have x5 : ∀ c k, c < 37 → pt X (37 + 2 * (p * 4 + q)) 1 (X (37 + 2 * (p * 4 + q)) 1 + 1) c k = X c k := fun c k hc => pt_ne (by omega)
    generalize X (37 + 2 * (p * 4 + q) + 1) (X (37 + 2 * (p * 4 + q)) 1) = w at w1 w2 ⊢
    rw [← w2]
    generalize pt X (37 + 2 * (p * 4 + q)) 1 (X (37 + 2 * (p * 4 + q)) 1 + 1) = U at ht x5 ⊢
    generalize rsh (pt Y 89 (4 * p + q) (Y 89 (4 * p + q) - 1)) (4 * p + q) (Y 89 (4 * p + q) - 1) = Z at ht t85 ⊢
    obtain ⟨g1, g2, g3, g4, g5, g6, g7, g8, g9⟩ := ht
    by_cases c2 : w < 64
    · have etr : tr p w = 16 * (w / 4) + 4 * p + w % 4 := by unfold tr; rw [if_pos c2]
      rw [if_pos c2, if_pos (by omega), etr, show 256 * q + (16 * (w / 4) + 4 * p + w % 4) = 256 * q + 16 * (w / 4) + 4 * p + w % 4 by omega]
      have hk := rk_learn g3 hq (v := w / 4) (by omega) hp (n := w % 4) (by omega)
      refine ⟨rfl, ?_, ?_, hk, ?_, ?_, ?_, ?_, ?_, ?_⟩
      · unfold cln
        intro a ha
        simp (disch := omega) only [pt_eq, pt_ne, pt_nk]
        exact g1 a ha
      · unfold cln
        refine ⟨?_, fun v hv => ?_, fun v b hv hb => ?_⟩ <;> simp (disch := omega) only [pt_eq, pt_ne, pt_nk]
        · exact g2.1
        · exact g2.2.1 v hv
        · exact g2.2.2 v b hv hb
      · unfold cln
        intro a r ha hr
        simp (disch := omega) only [pt_eq, pt_ne, pt_nk]
        exact g4 a r ha hr
      · unfold cln
        intro a v n ha hv hn
        simp (disch := omega) only [pt_eq, pt_ne, pt_nk]
        exact g5 a v n ha hv hn
      · unfold cln
        intro a c ha hc
        simp (disch := omega) only [pt_eq, pt_ne, pt_nk]
        exact g6 a c ha hc
      · unfold cln
        intro a i ha hi
        simp (disch := omega) only [pt_eq, pt_ne, pt_nk]
        exact g7 a i ha hi
      · unfold cln
        intro a b ha hb
        simp (disch := omega) only [cap, pt_eq, pt_ne, pt_nk]
        exact g8 a b ha hb
      · obtain ⟨i0, i1, i2, i3, i4, i5, i6, i7⟩ := g9
        refine ⟨?_, ?_, ?_, ?_, ?_, ?_, fun i => ?_, ?_⟩
        · simp (disch := omega) only [pt_eq, pt_ne, pt_nk]
          exact i0
        · simp (disch := omega) only [pt_eq, pt_ne, pt_nk]
          exact i1
        · simp (disch := omega) only [pt_eq, pt_ne, pt_nk]
          exact i2
        · simp (disch := omega) only [pt_eq, pt_ne, pt_nk]
          exact i3
        · simp (disch := omega) only [pt_eq, pt_ne, pt_nk]
          exact i4
        · simp (disch := omega) only [pt_eq, pt_ne, pt_nk]
          exact i5
        · show pt Z 84 (256 * q + 16 * (w / 4) + 4 * p + w % 4) 1 84 i ≤ 1
          by_cases e : i = 256 * q + 16 * (w / 4) + 4 * p + w % 4
          · rw [pt_eq rfl e]; exact Nat.le_refl _
          · rw [pt_nk e]; exact i6 i
        · simp (disch := omega) only [pt_eq, pt_ne, pt_nk]
          exact i7
    · have etr : tr p w = 256 + (16 * p + (w - 64)) := by unfold tr; rw [if_neg c2]
      have e16 : w - 64 < 16 := by omega
      rw [if_neg c2, if_neg (by omega), etr, show 256 + (16 * p + (w - 64)) - 256 = 16 * p + (w - 64) by omega]
      generalize w - 64 = c at e16 ⊢
      obtain ⟨f1, f2, f3⟩ := g6 p c hp e16
      rw [t85] at f1
      have hk := rh_learn g4 hq hp e16
      rw [show 64 * q + 16 * p + c = 64 * q + (16 * p + c) by omega] at hk
      have hmid : RS (csy U q p c) (pt Z 87 (64 * q + (16 * p + c)) 1) ∧ RG (csy U q p c) (pt Z 87 (64 * q + (16 * p + c)) 1) ∧ RK (csy U q p c) (pt Z 87 (64 * q + (16 * p + c)) 1) ∧ RH (csy U q p c) (pt Z 87 (64 * q + (16 * p + c)) 1) ∧ RM (csy U q p c) (pt Z 87 (64 * q + (16 * p + c)) 1) ∧ RC (csy U q p c) (pt Z 87 (64 * q + (16 * p + c)) 1) ∧ RE (csy U q p c) (pt Z 87 (64 * q + (16 * p + c)) 1) ∧ RL (csy U q p c) (pt Z 87 (64 * q + (16 * p + c)) 1) ∧ BD (pt Z 87 (64 * q + (16 * p + c)) 1) := by
        refine ⟨?_, ?_, ?_, hk, ?_, ?_, ?_, ?_, ?_⟩
        · unfold csy
          intro a ha
          simp (disch := omega) only [pt_eq, pt_ne, pt_nk]
          exact g1 a ha
        · unfold csy
          refine ⟨?_, fun v hv => ?_, fun v b hv hb => ?_⟩ <;> simp (disch := omega) only [pt_eq, pt_ne, pt_nk]
          · exact g2.1
          · exact g2.2.1 v hv
          · exact g2.2.2 v b hv hb
        · unfold csy
          intro a v r ha hv hr
          simp (disch := omega) only [pt_eq, pt_ne, pt_nk]
          exact g3 a v r ha hv hr
        · unfold csy
          intro a v n ha hv hn
          simp (disch := omega) only [pt_eq, pt_ne, pt_nk]
          exact g5 a v n ha hv hn
        · unfold csy
          intro a c ha hc
          simp (disch := omega) only [pt_eq, pt_ne, pt_nk]
          exact g6 a c ha hc
        · unfold csy
          intro a i ha hi
          simp (disch := omega) only [pt_eq, pt_ne, pt_nk]
          exact g7 a i ha hi
        · unfold csy
          intro a b ha hb
          simp (disch := omega) only [cap, pt_eq, pt_ne, pt_nk]
          exact g8 a b ha hb
        · obtain ⟨i0, i1, i2, i3, i4, i5, i6, i7, i8, i9, i10⟩ := g9
          refine ⟨?_, ?_, ?_, ?_, ?_, ?_, ?_, ?_, ?_, fun i => ?_, ?_⟩
          · simp (disch := omega) only [pt_eq, pt_ne, pt_nk]
            exact i0
          · simp (disch := omega) only [pt_eq, pt_ne, pt_nk]
            exact i1
          · simp (disch := omega) only [pt_eq, pt_ne, pt_nk]
            exact i2
          · simp (disch := omega) only [pt_eq, pt_ne, pt_nk]
            exact i3
          · simp (disch := omega) only [pt_eq, pt_ne, pt_nk]
            exact i4
          · simp (disch := omega) only [pt_eq, pt_ne, pt_nk]
            exact i5
          · simp (disch := omega) only [pt_eq, pt_ne, pt_nk]
            exact i6
          · simp (disch := omega) only [pt_eq, pt_ne, pt_nk]
            exact i7
          · simp (disch := omega) only [pt_eq, pt_ne, pt_nk]
            exact i8
          · by_cases e : i = 64 * q + (16 * p + c)
            · rw [pt_eq rfl e]; exact Nat.le_refl _
            · rw [pt_nk e]; exact i9 i
          · simp (disch := omega) only [pt_eq, pt_ne, pt_nk]
            exact i10
      unfold crs
      rw [f1]
      by_cases c3 : Y 85 (16 * p + c) = 0
      · rw [if_pos c3, if_pos c3]
        exact ⟨rfl, hmid⟩
      · rw [if_neg c3, if_neg c3]
        obtain ⟨j1, j2, j3, j4, j5, j6, j7, j8, j9⟩ := hmid
        have e85 : pt Z 87 (64 * q + (16 * p + c)) 1 85 (16 * p + c) = Y 85 (16 * p + c) := by rw [pt_ne (by decide), t85]
        have hl := rk_l j3 (s := 16 * p + c) (cut := U (5 + 8 * p + 6) c) hq (by rw [e85]; have := j9.2.2.2.2.2.2.2.1 (16 * p + c); rw [e85] at this; omega) (fun r hr => by rw [pt_ne (by decide)]; exact f3 r hr) (fun i => by rw [pt_ne (by decide)]; exact g9.2.2.2.2.2.2.2.2.1 i) 4 (Nat.le_refl _)
        rw [e85] at hl
        refine ⟨rfl, ?_, ?_, hl, ?_, ?_, ?_, ?_, ?_, ?_⟩
        · intro a ha
          simp (disch := omega) only [crl_ne, rkl_ne]
          exact j1 a ha
        · refine ⟨?_, fun v hv => ?_, fun v b hv hb => ?_⟩ <;> simp (disch := omega) only [crl_ne, rkl_ne]
          · exact j2.1
          · exact j2.2.1 v hv
          · exact j2.2.2 v b hv hb
        · intro a r ha hr
          simp (disch := omega) only [crl_ne, rkl_ne]
          exact j4 a r ha hr
        · intro a v n ha hv hn
          simp (disch := omega) only [crl_ne, rkl_ne]
          exact j5 a v n ha hv hn
        · intro a c ha hc
          simp (disch := omega) only [crl_ne, rkl_ne]
          exact j6 a c ha hc
        · intro a i ha hi
          simp (disch := omega) only [crl_ne, rkl_ne]
          exact j7 a i ha hi
        · intro a b ha hb
          simp (disch := omega) only [cap, crl_ne, rkl_ne]
          exact j8 a b ha hb
        · obtain ⟨i0, i1, i2, i3, i4, i5, i6, i7⟩ := j9
          refine ⟨?_, ?_, ?_, ?_, ?_, ?_, fun i => rkl_le i6 4 i, ?_⟩ <;> simp (disch := omega) only [rkl_ne]
          · exact i0
          · exact i1
          · exact i2
          · exact i3
          · exact i4
          · exact i5
          · exact i7
end
section
theorem rsm.rfl' {Y : VV} : rsm Y Y := fun _ _ _ _ => rfl
theorem rsm.trans {Y Z W : VV} (h : rsm Y Z) (h2 : rsm Z W) : rsm Y W := fun c k z1 z2 => (h2 c k z1 z2).trans (h c k z1 z2)
theorem rsm.put90 {Y Z : VV} (h : rsm Y Z) (k n : Nat) : rsm Y (pt Z 90 k n) := fun c j z1 z2 => by rw [pt_ne z1]; exact h c j z1 z2
theorem rsm.put69 {Y Z : VV} (h : rsm Y Z) (n : Nat) : rsm Y (pt Z 69 22 n) := fun c j z1 z2 => by
  by_cases e : c = 69
  · rw [pt_nk (fun z => z2 ⟨e, z⟩)]; exact h c j z1 z2
  · rw [pt_ne e]; exact h c j z1 z2
theorem Rel.rsm {X Y Z : VV} (h : Rel X Y) (hs : rsm Y Z) : Rel X Z := by
  obtain ⟨h1, h2, h3, h4, h5, h6, h7, h8, h9⟩ := h
  have hs : ∀ c k, c ≠ 90 → ¬ (c = 69 ∧ k = 22) → Z c k = Y c k := hs
  refine ⟨?_, ?_, ?_, ?_, ?_, ?_, ?_, ?_, ?_⟩
  · intro p hp
    simp (disch := omega) only [hs]
    exact h1 p hp
  · refine ⟨?_, ?_, ?_⟩
    · rw [hs 69 10 (by decide) (by omega)]
      exact h2.1
    · intro v hv
      simp (disch := omega) only [hs]
      exact h2.2.1 v hv
    · intro v p hv hp
      simp (disch := omega) only [hs]
      exact h2.2.2 v p hv hp
  · intro p v r hp hv hr
    simp (disch := omega) only [hs]
    exact h3 p v r hp hv hr
  · intro p r hp hr
    simp (disch := omega) only [hs]
    exact h4 p r hp hr
  · intro p v n hp hv hn
    simp (disch := omega) only [hs]
    exact h5 p v n hp hv hn
  · intro p c hp hc
    simp (disch := omega) only [hs]
    exact h6 p c hp hc
  · intro p i hp hi
    simp (disch := omega) only [hs]
    exact h7 p i hp hi
  · intro p q hp hq
    simp (disch := omega) only [cap, hs]
    exact h8 p q hp hq
  · unfold BD
    simp (disch := omega) only [hs]
    exact h9
theorem rl0_at {Y : VV} {x : Nat} : ∀ n r, rl0 Y x n 90 r = if r < n then x else Y 90 r
  | 0, r => by rw [if_neg (by omega)]; rfl
  | n + 1, r => by
    rw [rl0]
    by_cases e : r = n
    · rw [pt_eq rfl e, if_pos (by omega)]
    · rw [pt_nk e, rl0_at n r]
      by_cases z : r < n
      · rw [if_pos z, if_pos (by omega)]
      · rw [if_neg z, if_neg (by omega)]
theorem rl0_ne {Y : VV} {x c k : Nat} (h : c ≠ 90) : ∀ n, rl0 Y x n c k = Y c k
  | 0 => rfl
  | n + 1 => by rw [rl0, pt_ne h, rl0_ne h n]
theorem rlr_ne {U : VV} {s c k : Nat} (h : c ≠ 90) : ∀ n, rlr U s n c k = U c k
  | 0 => rfl
  | n + 1 => by
    rw [rlr]
    split
    · rw [pt_ne h, rlr_ne h n]
    · exact rlr_ne h n
theorem rlr_at {U : VV} {s : Nat} : ∀ n r, rlr U s n 90 r = if r < n ∧ U 90 r < U 86 (4 * s + r) then U 86 (4 * s + r) else U 90 r
  | 0, r => by rw [if_neg (by omega)]; rfl
  | n + 1, r => by
    have hn : rlr U s n 90 n = U 90 n := by rw [rlr_at n n, if_neg (by omega)]
    rw [rlr, hn]
    by_cases e : r = n
    · subst e
      by_cases z : U 90 r < U 86 (4 * s + r)
      · rw [if_pos z, pt_eq rfl rfl, if_pos ⟨by omega, z⟩]
      · rw [if_neg z, hn, if_neg (show ¬ (r < r + 1 ∧ U 90 r < U 86 (4 * s + r)) from fun w => z w.2)]
    · by_cases z : U 90 n < U 86 (4 * s + n)
      · rw [if_pos z, pt_nk e, rlr_at n r]
        by_cases y : r < n ∧ U 90 r < U 86 (4 * s + r)
        · rw [if_pos y, if_pos ⟨by omega, y.2⟩]
        · rw [if_neg y, if_neg (fun w => y ⟨by omega, w.2⟩)]
      · rw [if_neg z, rlr_at n r]
        by_cases y : r < n ∧ U 90 r < U 86 (4 * s + r)
        · rw [if_pos y, if_pos ⟨by omega, y.2⟩]
        · rw [if_neg y, if_neg (fun w => y ⟨by omega, w.2⟩)]
theorem rlq_ne {Y : VV} {p v both c k : Nat} (h : c ≠ 90) (h2 : ¬ (c = 69 ∧ k = 22)) : ∀ q, rlq Y p v both q c k = Y c k
  | 0 => rfl
  | q + 1 => by
    rw [rlq]
    split
    · exact rlq_ne h h2 q
    · rw [rlr_ne h]
      by_cases e : c = 69
      · rw [pt_nk (fun z => h2 ⟨e, z⟩)]; exact rlq_ne h h2 q
      · rw [pt_ne e]; exact rlq_ne h h2 q
theorem cnt_mx {a b : Nat} (ha : pkd a) (hb : pkd b) {r : Nat} (hr : r < 4) : cnt (mx4 a b) r = if cnt a r < cnt b r then cnt b r else cnt a r := cnt_pk (d := fun r => if cnt a r < cnt b r then cnt b r else cnt a r) (fun r hr => by
  have h1 := ha.2 r hr
  have h2 := hb.2 r hr
  show (if cnt a r < cnt b r then cnt b r else cnt a r) ≤ 255
  split <;> omega) r hr
theorem pkd_mx {a b : Nat} (ha : pkd a) (hb : pkd b) : pkd (mx4 a b) := pkd_pk (fun r hr => by
  have h1 := ha.2 r hr
  have h2 := hb.2 r hr
  show (if cnt a r < cnt b r then cnt b r else cnt a r) ≤ 4
  split <;> omega)
/-- those that come along -/
def ccd (X : VV) (p com q : Nat) : Prop := com / 2 ^ q % 2 = 1 ∧ X (5 + 8 * q + 5) (X 4 (X (5 + 8 * p) 5 * 4 + q)) = X (5 + 8 * p) 0
theorem cco_lt {X : VV} {p com : Nat} : ∀ q, q ≤ 4 → cco X p com q < 2 ^ 4
  | 0, _ => by show 0 < 2 ^ 4; decide
  | q + 1, hq => by
    have ih := cco_lt (X := X) (p := p) (com := com) q (by omega)
    rw [cco]
    split
    · exact or_lt ih (by omega)
    · exact ih
theorem cco_bit {X : VV} {p com j : Nat} : ∀ q, cco X p com q / 2 ^ j % 2 = 1 ↔ j < q ∧ ccd X p com j
  | 0 => by
    rw [cco, Nat.zero_div]
    constructor
    · intro h; omega
    · intro h; omega
  | q + 1 => by
    have ih := cco_bit (X := X) (p := p) (com := com) (j := j) q
    rw [cco]
    split
    · rename_i hc
      rw [b_or]
      by_cases e : j = q
      · subst e
        rw [if_pos rfl]
        exact ⟨fun _ => ⟨by omega, hc⟩, fun _ => rfl⟩
      · rw [if_neg e, ih]
        exact ⟨fun z => ⟨by omega, z.2⟩, fun z => ⟨by omega, z.2⟩⟩
    · rename_i hc
      rw [ih]
      constructor
      · exact fun z => ⟨by omega, z.2⟩
      · intro z
        have : j ≠ q := fun e => hc (by rw [← e]; exact z.2)
        exact ⟨by omega, z.2⟩
theorem and_bit (a b j : Nat) : (a &&& b) / 2 ^ j % 2 = 1 ↔ a / 2 ^ j % 2 = 1 ∧ b / 2 ^ j % 2 = 1 := by
  have h : ∀ x n : Nat, x / 2 ^ n % 2 = 1 ↔ x.testBit n = true := by
    intro x n
    rw [Nat.testBit_eq_decide_div_mod_eq]
    simp
  rw [h, h, h, Nat.testBit_and]
  simp
theorem sim_lim {X Y : VV} (h : Rel X Y) {p : Nat} (hp : p < 4) (hv0 : ¬ Y 75 p = 0) : ∀ q, q ≤ 4 →
    rlq (rl0 (pt Y 69 22 0) 0 4) p (Y 75 p) (Y 80 (Y 75 p) &&& rps Y p) q 69 22 = cco X p (Y 80 (Y 75 p) &&& rps Y p) q ∧
    pkd (cli X (Y 75 p) (cco X p (Y 80 (Y 75 p) &&& rps Y p) 4) q) ∧
    ∀ r, r < 4 → rlq (rl0 (pt Y 69 22 0) 0 4) p (Y 75 p) (Y 80 (Y 75 p) &&& rps Y p) q 90 r = cnt (cli X (Y 75 p) (cco X p (Y 80 (Y 75 p) &&& rps Y p) 4) q) r
  | 0, _ => by
    rw [rlq, cco, cli]
    refine ⟨by rw [rl0_ne (by decide), pt_eq rfl rfl], pkd_0, fun r hr => ?_⟩
    rw [rl0_at, if_pos hr, show cnt 0 r = 0 by unfold cnt; rw [Nat.zero_div]]
  | q + 1, hq => by
    obtain ⟨i1, i2, i3⟩ := sim_lim h hp hv0 q (by omega)
    have hq4 : q < 4 := by omega
    obtain ⟨h1, h2, h3, h4, h5, h6, h7, h8, h9⟩ := h
    obtain ⟨s0, s1, s2, s3, s4, s5, s6, s7, s8, s9⟩ := h1 p hp
    obtain ⟨b0, b1, b2, b3, b4, b5, b6, b7, b8, b9⟩ := h9.1 p hp
    have hv15 := h9.2.1
    have e4 : X 4 (Y 75 p * 4 + q) = Y 81 (4 * Y 75 p + q) := h2.2.2 (Y 75 p) q (by omega) hq4
    have hst := h9.2.2.2.2.1 (4 * Y 75 p + q)
    obtain ⟨f1, f2, f3⟩ := h6 q (Y 81 (4 * Y 75 p + q)) hq4 (by omega)
    have z85 : rl0 (pt Y 69 22 0) 0 4 85 (16 * q + rl0 (pt Y 69 22 0) 0 4 81 (4 * Y 75 p + q)) = Y 85 (16 * q + Y 81 (4 * Y 75 p + q)) := by
      simp (disch := omega) only [rl0_ne, pt_ne]
    have z70 : rl0 (pt Y 69 22 0) 0 4 70 p = Y 70 p := by
      simp (disch := omega) only [rl0_ne, pt_ne]
    have z81 : rl0 (pt Y 69 22 0) 0 4 81 (4 * Y 75 p + q) = Y 81 (4 * Y 75 p + q) := by
      simp (disch := omega) only [rl0_ne, pt_ne]
    have hcc : ccd X p (Y 80 (Y 75 p) &&& rps Y p) q ↔ ¬ ((Y 80 (Y 75 p) &&& rps Y p) / 2 ^ q % 2 = 0 ∨ ¬ Y 85 (16 * q + Y 81 (4 * Y 75 p + q)) = Y 70 p ∨ (Y 70 p = 0 ∧ ¬ q = p)) := by
      unfold ccd
      rw [s5, e4, f1, s0]
      constructor
      · rintro ⟨z1, z2⟩ (z | z | z)
        · omega
        · exact z z2
        · have hb := ((and_bit _ _ _).mp z1).2
          unfold rps at hb
          rw [if_pos z.1] at hb
          exact z.2 (two_bit p hp q hq4 hb)
      · intro z
        refine ⟨?_, ?_⟩
        · by_cases y : (Y 80 (Y 75 p) &&& rps Y p) / 2 ^ q % 2 = 0
          · exact absurd (Or.inl y) z
          · omega
        · by_cases y : Y 85 (16 * q + Y 81 (4 * Y 75 p + q)) = Y 70 p
          · exact y
          · exact absurd (Or.inr (Or.inl y)) z
    have hbit := cco_bit (X := X) (p := p) (com := Y 80 (Y 75 p) &&& rps Y p) (j := q) 4
    rw [rlq, z85, z70, z81, cli, e4]
    by_cases hg : ccd X p (Y 80 (Y 75 p) &&& rps Y p) q
    · have hg2 := hg
      unfold ccd at hg2
      rw [if_neg (hcc.mp hg), cco, if_pos hg2, if_pos (hbit.mpr ⟨hq4, hg⟩)]
      refine ⟨?_, pkd_mx i2 f2, fun r hr => ?_⟩
      · rw [rlr_ne (by decide), pt_eq rfl rfl, i1]
      · rw [rlr_at, cnt_mx i2 f2 hr, f3 r hr, pt_ne (by decide), pt_ne (by decide), i3 r hr, rlq_ne (by decide) (by omega), rl0_ne (by decide), pt_ne (by decide)]
        by_cases z : cnt (cli X (Y 75 p) (cco X p (Y 80 (Y 75 p) &&& rps Y p) 4) q) r < Y 86 (4 * (16 * q + Y 81 (4 * Y 75 p + q)) + r)
        · rw [if_pos ⟨hr, z⟩, if_pos z]
        · rw [if_neg (fun w => z w.2), if_neg z]
    · have hn : ¬ cco X p (Y 80 (Y 75 p) &&& rps Y p) 4 / 2 ^ q % 2 = 1 := fun z => hg (hbit.mp z).2
      have hr1 : (Y 80 (Y 75 p) &&& rps Y p) / 2 ^ q % 2 = 0 ∨ ¬ Y 85 (16 * q + Y 81 (4 * Y 75 p + q)) = Y 70 p ∨ (Y 70 p = 0 ∧ ¬ q = p) := by
        by_cases y : (Y 80 (Y 75 p) &&& rps Y p) / 2 ^ q % 2 = 0 ∨ ¬ Y 85 (16 * q + Y 81 (4 * Y 75 p + q)) = Y 70 p ∨ (Y 70 p = 0 ∧ ¬ q = p)
        · exact y
        · exact absurd (hcc.mpr y) hg
      have hg2 := hg
      unfold ccd at hg2
      rw [if_pos hr1, cco, if_neg hg2, if_neg hn]
      exact ⟨i1, i2, i3⟩
theorem sim_dl {X Z : VV} (h : Rel X Z) {p lim : Nat} (hp : p < 4) (hl : pkd lim) (h90 : ∀ r, r < 4 → Z 90 r = cnt lim r) {q : Nat} (hq : q < 4) : cdl X p lim q ↔ rdl Z p q := by
  obtain ⟨h1, h2, h3, h4, h5, h6, h7, h8, h9⟩ := h
  obtain ⟨s0, s1, s2, s3, s4, s5, s6, s7, s8, s9⟩ := h1 p hp
  obtain ⟨b0, b1, b2, b3, b4, b5, b6, b7, b8, b9⟩ := h9.1 p hp
  have hv15 := h9.2.1
  have hq9 := s9 q hq
  have hl4 := hl.2 q hq
  unfold cdl rdl
  rw [h90 q hq, s0, hq9]
  by_cases hd : Z 78 (4 * p + q) < cnt lim q
  · obtain ⟨k1, k2, k3⟩ := h3 p (Z 70 p) q hp (by omega) hq
    have k3 := k3 (Z 78 (4 * p + q)) (by omega)
    obtain ⟨m1, m2, m3⟩ := h5 q (Z 70 p) (Z 78 (4 * p + q)) hq (by omega) (by omega)
    have m0 := h9.2.2.2.2.2.2.2.2.2.2 (Z 70 p) q (Z 78 (4 * p + q)) (by omega) hq (by omega)
    have hkn := h9.2.2.2.2.2.2.1 (256 * p + 16 * Z 70 p + 4 * q + Z 78 (4 * p + q))
    rw [k3, show 256 * p + (16 * Z 70 p + 4 * q + Z 78 (4 * p + q)) = 256 * p + 16 * Z 70 p + 4 * q + Z 78 (4 * p + q) by omega]
    constructor
    · rintro ⟨z1, z2, z3⟩
      refine ⟨z1, by omega, fun r hr _ => ?_⟩
      have := z3 r hr
      rw [m3 r hr, s9 r hr] at this
      exact this
    · rintro ⟨z1, z2, z3⟩
      refine ⟨z1, by omega, fun r hr => ?_⟩
      rw [m3 r hr, s9 r hr]
      by_cases e : r = q
      · subst e
        rw [m0]
        exact Nat.zero_le _
      · exact z3 r hr e
  · exact ⟨fun z => absurd z.1 hd, fun z => absurd z.1 hd⟩
theorem re_ev {X Y : VV} (h : RE X Y) {p : Nat} (hp : p < 4) (a b c d : Nat) : RE (cev X p a b c d) (rev Y p a b c d) := by
  intro g i hg hi
  unfold cev rev
  by_cases e : g = p
  · subst e
    match i, hi with
    | 0, _ => simp (disch := omega) only [pt_eq, pt_ne, pt_nk]
    | 1, _ => simp (disch := omega) only [pt_eq, pt_ne, pt_nk]
    | 2, _ => simp (disch := omega) only [pt_eq, pt_ne, pt_nk]
    | 3, _ => simp (disch := omega) only [pt_eq, pt_ne, pt_nk]
  · simp (disch := omega) only [pt_eq, pt_ne, pt_nk]
    exact h g i hg hi
theorem cev_ne {X : VV} {p a b c d g k : Nat} (h : g ≠ 5 + 8 * p + 7) : cev X p a b c d g k = X g k := by
  unfold cev
  rw [pt_ne h, pt_ne h, pt_ne h, pt_ne h]
theorem rev_ne {Y : VV} {p a b c d g k : Nat} (h : g ≠ 79) : rev Y p a b c d g k = Y g k := by
  unfold rev
  rw [pt_ne h, pt_ne h, pt_ne h, pt_ne h]
theorem sim_dv {X Z : VV} (h : Rel X Z) {p q : Nat} (hp : p < 4) (hq : q < 4) (hd : Z 78 (4 * p + q) < 4) : Rel (cdv X p q) (rdv Z p q) := by
  obtain ⟨h1, h2, h3, h4, h5, h6, h7, h8, h9⟩ := h
  obtain ⟨s0, s1, s2, s3, s4, s5, s6, s7, s8, s9⟩ := h1 p hp
  obtain ⟨b0, b1, b2, b3, b4, b5, b6, b7, b8, b9⟩ := h9.1 p hp
  have hv15 := h9.2.1
  have hq9 := s9 q hq
  obtain ⟨m1, m2, m3⟩ := h5 q (Z 70 p) (Z 78 (4 * p + q)) hq (by omega) hd
  unfold cdv rdv
  rw [hq9, s0, m1]
  have hre := re_ev (X := pt X (5 + 8 * p) 8 (wc (X (5 + 8 * p) 8) q (Z 78 (4 * p + q) + 1))) (Y := pt Z 78 (4 * p + q) (Z 78 (4 * p + q) + 1)) (fun a i ha hi => by simp (disch := omega) only [pt_eq, pt_ne, pt_nk]; exact h7 a i ha hi) hp 1 q (Z 78 (4 * p + q) + 1) (Z 82 (16 * Z 70 p + 4 * q + Z 78 (4 * p + q)))
  refine ⟨?_, ?_, ?_, ?_, ?_, ?_, hre, ?_, ?_⟩
  · intro a ha
    by_cases hap : a = p
    · subst hap
      simp (disch := omega) only [cev_ne, rev_ne, pt_eq, pt_ne, pt_nk]
      refine ⟨s0, s1, s2, s3, s4, s5, s6, s7, pkd_wc s8 (by omega), fun r hr => ?_⟩
      rw [cnt_wc s8 (by omega) hr]
      by_cases e : r = q
      · subst e
        rw [if_pos rfl, pt_eq rfl rfl]
      · rw [if_neg e, pt_nk (by omega)]
        exact s9 r hr
    · simp (disch := omega) only [cev_ne, rev_ne, pt_eq, pt_ne, pt_nk]
      obtain ⟨t0, t1, t2, t3, t4, t5, t6, t7, t8, t9⟩ := h1 a ha
      refine ⟨t0, t1, t2, t3, t4, t5, t6, t7, t8, fun r hr => ?_⟩
      rw [pt_nk (by omega)]
      exact t9 r hr
  · refine ⟨?_, fun v hv => ?_, fun v b hv hb => ?_⟩ <;> simp (disch := omega) only [cev_ne, rev_ne, pt_eq, pt_ne, pt_nk]
    · exact h2.1
    · exact h2.2.1 v hv
    · exact h2.2.2 v b hv hb
  · intro a v r ha hv hr
    simp (disch := omega) only [cev_ne, rev_ne, pt_eq, pt_ne, pt_nk]
    exact h3 a v r ha hv hr
  · intro a r ha hr
    simp (disch := omega) only [cev_ne, rev_ne, pt_eq, pt_ne, pt_nk]
    exact h4 a r ha hr
  · intro a v n ha hv hn
    simp (disch := omega) only [cev_ne, rev_ne, pt_eq, pt_ne, pt_nk]
    exact h5 a v n ha hv hn
  · intro a c ha hc
    simp (disch := omega) only [cev_ne, rev_ne, pt_eq, pt_ne, pt_nk]
    exact h6 a c ha hc
  · intro a b ha hb
    simp (disch := omega) only [cap, cev_ne, rev_ne, pt_eq, pt_ne, pt_nk]
    exact h8 a b ha hb
  · obtain ⟨i0, i1, i2, i3⟩ := h9
    refine ⟨?_, ?_, fun i => ?_, ?_⟩
    · simp (disch := omega) only [rev_ne, pt_ne]
      exact i0
    · simp (disch := omega) only [rev_ne, pt_ne]
      exact i1
    · rw [rev_ne (by decide)]
      by_cases e : i = 4 * p + q
      · rw [pt_eq rfl e]; omega
      · rw [pt_nk e]; exact i2 i
    · simp (disch := omega) only [rev_ne, pt_ne]
      exact i3
theorem rz4_ne {Y : VV} {p c k : Nat} (h : c ≠ 78) : ∀ n, rz4 Y p n c k = Y c k
  | 0 => rfl
  | n + 1 => by rw [rz4, pt_ne h, rz4_ne h n]
theorem rz4_at {Y : VV} {p k : Nat} : ∀ n, rz4 Y p n 78 k = if 4 * p ≤ k ∧ k < 4 * p + n then 0 else Y 78 k
  | 0 => by rw [if_neg (by omega)]; rfl
  | n + 1 => by
    rw [rz4]
    by_cases e : k = 4 * p + n
    · rw [pt_eq rfl e, if_pos (by omega)]
    · rw [pt_nk e, rz4_at n]
      by_cases z : 4 * p ≤ k ∧ k < 4 * p + n
      · rw [if_pos z, if_pos (by omega)]
      · rw [if_neg z, if_neg (by omega)]
theorem sim_en {X Z : VV} (h : Rel X Z) {p : Nat} (hp : p < 4) (hv0 : ¬ Z 75 p = 0) (co : Nat) : Rel (cen (cev X p 2 (X (5 + 8 * p) 5) (X 3 (X (5 + 8 * p) 5)) co) p) (rz4 (pt (pt (pt (rev (pt Z 70 p (Z 75 p)) p 2 (Z 75 p) (Z 80 (Z 75 p)) co) 75 p 0) 74 p 0) 77 p 0) p 4) := by
  obtain ⟨h1, h2, h3, h4, h5, h6, h7, h8, h9⟩ := h
  obtain ⟨s0, s1, s2, s3, s4, s5, s6, s7, s8, s9⟩ := h1 p hp
  obtain ⟨b0, b1, b2, b3, b4, b5, b6, b7, b8, b9⟩ := h9.1 p hp
  have hv15 := h9.2.1
  rw [s5, h2.2.1 (Z 75 p) (by omega)]
  have hre := re_ev (X := X) (Y := pt Z 70 p (Z 75 p)) (fun a i ha hi => by simp (disch := omega) only [pt_eq, pt_ne, pt_nk]; exact h7 a i ha hi) hp 2 (Z 75 p) (Z 80 (Z 75 p)) co
  have e5 : cev X p 2 (Z 75 p) (Z 80 (Z 75 p)) co (5 + 8 * p) 5 = Z 75 p := by rw [cev_ne (by omega), s5]
  unfold cen
  rw [e5]
  refine ⟨?_, ?_, ?_, ?_, ?_, ?_, ?_, ?_, ?_⟩
  · intro a ha
    by_cases hap : a = p
    · subst hap
      simp (disch := omega) only [cev_ne, rev_ne, rz4_ne, pt_eq, pt_ne, pt_nk]
      refine ⟨trivial, s1, s2, s3, trivial, trivial, s6, trivial, pkd_0, fun r hr => ?_⟩
      rw [rz4_at, if_pos (by omega)]
      unfold cnt
      rw [Nat.zero_div]
    · simp (disch := omega) only [cev_ne, rev_ne, rz4_ne, pt_eq, pt_ne, pt_nk]
      obtain ⟨t0, t1, t2, t3, t4, t5, t6, t7, t8, t9⟩ := h1 a ha
      refine ⟨t0, t1, t2, t3, t4, t5, t6, t7, t8, fun r hr => ?_⟩
      rw [rz4_at, if_neg (by omega)]
      simp (disch := omega) only [rev_ne, pt_ne]
      exact t9 r hr
  · refine ⟨?_, fun v hv => ?_, fun v b hv hb => ?_⟩ <;> simp (disch := omega) only [cev_ne, rev_ne, rz4_ne, pt_eq, pt_ne, pt_nk]
    · exact h2.1
    · exact h2.2.1 v hv
    · exact h2.2.2 v b hv hb
  · intro a v r ha hv hr
    simp (disch := omega) only [cev_ne, rev_ne, rz4_ne, pt_eq, pt_ne, pt_nk]
    exact h3 a v r ha hv hr
  · intro a r ha hr
    simp (disch := omega) only [cev_ne, rev_ne, rz4_ne, pt_eq, pt_ne, pt_nk]
    exact h4 a r ha hr
  · intro a v n ha hv hn
    simp (disch := omega) only [cev_ne, rev_ne, rz4_ne, pt_eq, pt_ne, pt_nk]
    exact h5 a v n ha hv hn
  · intro a c ha hc
    simp (disch := omega) only [cev_ne, rev_ne, rz4_ne, pt_eq, pt_ne, pt_nk]
    exact h6 a c ha hc
  · intro a i ha hi
    simp (disch := omega) only [rz4_ne, pt_ne]
    exact hre a i ha hi
  · intro a b ha hb
    obtain ⟨f1, f2, f3, f4⟩ := h8 a b ha hb
    simp (disch := omega) only [cap, cev_ne, rev_ne, rz4_ne, pt_ne]
    refine ⟨f1, ?_, f3, f4⟩
    by_cases hap : a = p
    · subst hap
      simp (disch := omega) only [pt_eq, pt_ne, pt_nk]
      unfold cap at f2
      rw [if_neg hv0]
      split at f2 <;> omega
    · simp (disch := omega) only [pt_eq, pt_ne, pt_nk]
      exact f2
  · obtain ⟨i0, i1, i2, i3⟩ := h9
    refine ⟨fun a ha => ?_, ?_, fun i => ?_, ?_⟩
    · by_cases hap : a = p
      · subst hap
        simp (disch := omega) only [rev_ne, rz4_ne, pt_eq, pt_ne, pt_nk]
        exact ⟨b5, b1, b2, b3, Nat.zero_le _, Nat.zero_le _, b6, Nat.zero_le _, by omega, Or.inl trivial⟩
      · simp (disch := omega) only [rev_ne, rz4_ne, pt_eq, pt_ne, pt_nk]
        exact i0 a ha
    · simp (disch := omega) only [rev_ne, rz4_ne, pt_ne]
      exact i1
    · rw [rz4_at]
      split
      · exact Nat.zero_le _
      · simp (disch := omega) only [rev_ne, pt_ne]
        exact i2 i
    · simp (disch := omega) only [rev_ne, rz4_ne, pt_ne]
      exact i3
theorem sim_d1 {X Z : VV} (h : Rel X Z) {p lim : Nat} (hp : p < 4) (hl : pkd lim) (h90 : ∀ r, r < 4 → Z 90 r = cnt lim r) {r : Int32} {X' : VV} (hc : cd1 X p lim r X') : (r = 1 ∧ ∃ q, q < 4 ∧ rdl Z p q ∧ (∀ j, j < q → ¬ rdl Z p j) ∧ X' = cdv X p q ∧ Rel X' (rdv Z p q)) ∨ (r = 0 ∧ (∀ j, j < 4 → ¬ rdl Z p j) ∧ X' = X) := by
  rcases hc with ⟨rfl, q, hq, z1, z2, rfl⟩ | ⟨rfl, z1, rfl⟩
  · have hr := (sim_dl h hp hl h90 hq).mp z1
    refine Or.inl ⟨rfl, q, hq, hr, fun j hj w => z2 j hj ((sim_dl h hp hl h90 (by omega)).mpr w), rfl, sim_dv h hp hq ?_⟩
    have h1 := hr.1
    rw [h90 q hq] at h1
    have := hl.2 q hq
    omega
  · exact Or.inr ⟨rfl, fun j hj w => z1 j hj ((sim_dl h hp hl h90 hj).mpr w), rfl⟩
theorem q_least {P : Nat → Prop} {a b : Nat} (ha : P a) (hb : P b) (la : ∀ j, j < a → ¬ P j) (lb : ∀ j, j < b → ¬ P j) : a = b := by
  rcases Nat.lt_trichotomy a b with z | z | z
  · exact absurd ha (lb a z)
  · exact z
  · exact absurd hb (la b z)
theorem sim_step {X Y : VV} (h : Rel X Y) {p : Nat} (hp : p < 4) {r r' : Int32} {X' Y' : VV} (hc : cStep X p r X') (hr : rStep Y p r' Y') : r = r' ∧ Rel X' Y' := by
  have hR := h
  have hcp := cps_eq h hp
  obtain ⟨h1, h2, h3, h4, h5, h6, h7, h8, h9⟩ := h
  obtain ⟨s0, s1, s2, s3, s4, s5, s6, s7, s8, s9⟩ := h1 p hp
  obtain ⟨b0, b1, b2, b3, b4, b5, b6, b7, b8, b9⟩ := h9.1 p hp
  have hv15 := h9.2.1
  have e3 : X 3 (Y 75 p) = Y 80 (Y 75 p) := h2.2.1 _ (by omega)
  have hrd : crd X p (Y 80 (Y 75 p) &&& rps Y p) ↔ rrd Y p (Y 75 p) (Y 80 (Y 75 p) &&& rps Y p) := by
    unfold crd rrd
    rw [s5]
    constructor
    · intro z q hq hb
      have e4 : X 4 (Y 75 p * 4 + q) = Y 81 (4 * Y 75 p + q) := h2.2.2 (Y 75 p) q (by omega) hq
      have hst := h9.2.2.2.2.1 (4 * Y 75 p + q)
      have := z q hq (by omega)
      rw [e4, (h4 p q hp hq).2 _ (by omega), show 64 * p + 16 * q + Y 81 (4 * Y 75 p + q) = 64 * p + (16 * q + Y 81 (4 * Y 75 p + q)) by omega] at this
      omega
    · intro z q hq hb
      have e4 : X 4 (Y 75 p * 4 + q) = Y 81 (4 * Y 75 p + q) := h2.2.2 (Y 75 p) q (by omega) hq
      have hst := h9.2.2.2.2.1 (4 * Y 75 p + q)
      have hh := h9.2.2.2.2.2.2.2.2.2.1 (64 * p + (16 * q + Y 81 (4 * Y 75 p + q)))
      have := z q hq (by omega)
      rw [e4, (h4 p q hp hq).2 _ (by omega), show 64 * p + 16 * q + Y 81 (4 * Y 75 p + q) = 64 * p + (16 * q + Y 81 (4 * Y 75 p + q)) by omega]
      omega
  obtain ⟨hw, Z, hlim, hr⟩ := hr
  unfold cStep at hc
  rw [s4, s5, e3, hcp, hrd] at hc
  have fin : ∀ {lim : Nat} {W : VV} {r0 : Int32} {V : VV}, rsm Y W → pkd lim → (∀ j, j < 4 → W 90 j = cnt lim j) → cd1 X p lim r0 V → ∀ {rr : Int32} {V' : VV}, (r0 = 1 → (∃ q, q < 4 ∧ rdl W p q ∧ (∀ j, j < q → ¬ rdl W p j) ∧ rr = 1 ∧ V' = rdv W p q) → rr = 1 ∧ Rel V V') ∧ (r0 = 1 → ¬ ∀ j, j < 4 → ¬ rdl W p j) ∧ (r0 = 0 → (∀ j, j < 4 → ¬ rdl W p j) ∧ V = X) := by
    intro lim W r0 V hs hl h90 hd rr V'
    rcases sim_d1 (hR.rsm hs) hp hl h90 hd with ⟨rfl, q, hq, z1, z2, z3, z4⟩ | ⟨rfl, z1, rfl⟩
    · refine ⟨fun _ hx => ?_, fun _ w => w q hq z1, fun w => absurd w (by decide)⟩
      obtain ⟨q', hq', y1, y2, rfl, rfl⟩ := hx
      have := q_least (P := rdl W p) z1 y1 z2 y2
      subst this
      exact ⟨rfl, z4⟩
    · exact ⟨fun w => absurd w (by decide), fun w => absurd w (by decide), fun _ => ⟨z1, rfl⟩⟩
  rcases hlim with ⟨rfl, d1, rfl⟩ | ⟨rfl, d1, d2, hs⟩ | ⟨rfl, d1, d2, d3, hs⟩ | ⟨rfl, d1, d2, d3, rfl⟩
  · -- not blocked
    have hs : rsm Y (rl0 (pt Y 69 22 0) 4 4) := fun c k z1 z2 => by
      rw [rl0_ne z1]
      exact (rsm.rfl'.put69 0) c k z1 z2
    have hl : pkd 67372036 := ⟨by decide, c4 (by decide) (by decide) (by decide) (by decide)⟩
    have h90 : ∀ j, j < 4 → rl0 (pt Y 69 22 0) 4 4 90 j = cnt 67372036 j := fun j hj => by
      rw [rl0_at, if_pos hj]
      revert j
      exact c4 (P := fun j => 4 = cnt 67372036 j) (by decide) (by decide) (by decide) (by decide)
    rcases hc with ⟨a1, a2⟩ | ⟨a1, a2⟩ | ⟨a1, a2⟩ | ⟨a1, a2⟩
    · rcases hr with ⟨y1, -⟩ | ⟨-, y2⟩ | ⟨-, y2, y3, y4⟩ | ⟨y1, -⟩ | ⟨y1, -⟩
      · exact absurd y1 (by decide)
      · have ha := a2
        rcases a2 with ⟨rfl, -⟩ | ⟨rfl, -⟩
        · obtain ⟨g1, g2⟩ := (fin hs hl h90 ha (rr := r') (V' := Y')).1 rfl y2
          exact ⟨g1.symm, g2⟩
        · obtain ⟨q, hq, y5, -⟩ := y2
          exact absurd y5 (((fin hs hl h90 ha (rr := r') (V' := Y')).2.2 rfl).1 q hq)
      · have ha := a2
        rcases a2 with ⟨rfl, -⟩ | ⟨rfl, -⟩
        · exact absurd y2 ((fin hs hl h90 ha (rr := r') (V' := Y')).2.1 rfl)
        · rw [y3, y4, ((fin hs hl h90 ha (rr := r') (V' := Y')).2.2 rfl).2]
          exact ⟨rfl, hR.rsm hs⟩
      · exact absurd y1 (by decide)
      · exact absurd y1 (by decide)
    · exact absurd d1 a1
    · exact absurd d1 a1
    · exact absurd d1 a1
  · rcases hc with ⟨a1, a2⟩ | ⟨a1, a2, rfl, rfl⟩ | ⟨a1, a2, a3⟩ | ⟨a1, a2, a3⟩
    · exact absurd a1 d1
    · rcases hr with ⟨-, rfl, rfl⟩ | ⟨y1, -⟩ | ⟨y1, -⟩ | ⟨y1, -⟩ | ⟨y1, -⟩
      · exact ⟨rfl, hR.rsm hs⟩
      · exact absurd rfl y1
      · exact absurd y1 (by decide)
      · exact absurd y1 (by decide)
      · exact absurd y1 (by decide)
    · exact absurd d2 a2
    · exact absurd d2 a2
  · rcases hc with ⟨a1, a2⟩ | ⟨a1, a2, -⟩ | ⟨a1, a2, a3, rfl, rfl⟩ | ⟨a1, a2, a3, -⟩
    · exact absurd a1 d1
    · exact absurd a2 d2
    · rcases hr with ⟨-, rfl, rfl⟩ | ⟨y1, -⟩ | ⟨y1, -⟩ | ⟨y1, -⟩ | ⟨y1, -⟩
      · exact ⟨rfl, hR.rsm hs⟩
      · exact absurd rfl y1
      · exact absurd y1 (by decide)
      · exact absurd y1 (by decide)
      · exact absurd y1 (by decide)
    · exact absurd a3 d3
  · have hs : rsm Y (rlq (rl0 (pt Y 69 22 0) 0 4) p (Y 75 p) (Y 80 (Y 75 p) &&& rps Y p) 4) := fun c k z1 z2 => by
      rw [rlq_ne z1 z2, rl0_ne z1]
      exact (rsm.rfl'.put69 0) c k z1 z2
    obtain ⟨hco, hl, h90⟩ := sim_lim hR hp d2 4 (Nat.le_refl _)
    have hZ := hR.rsm hs
    generalize rlq (rl0 (pt Y 69 22 0) 0 4) p (Y 75 p) (Y 80 (Y 75 p) &&& rps Y p) 4 = W at hs hco h90 hZ hr
    have w75 : W 75 p = Y 75 p := hs 75 p (by decide) (by omega)
    rcases hc with ⟨a1, a2⟩ | ⟨a1, a2, -⟩ | ⟨a1, a2, a3, -⟩ | ⟨a1, a2, a3, a4⟩
    · exact absurd a1 d1
    · exact absurd a2 d2
    · exact absurd d3 a3
    · rcases a4 with ⟨rfl, a4⟩ | ⟨a4, a5⟩
      · rcases hr with ⟨y1, -⟩ | ⟨-, y2⟩ | ⟨y1, -⟩ | ⟨-, y2, -⟩ | ⟨-, y2, -⟩
        · exact absurd y1 (by decide)
        · obtain ⟨g1, g2⟩ := (fin hs hl h90 a4 (rr := r') (V' := Y')).1 rfl y2
          exact ⟨g1.symm, g2⟩
        · exact absurd y1 (by decide)
        · exact absurd y2 ((fin hs hl h90 a4 (rr := r') (V' := Y')).2.1 rfl)
        · exact absurd y2 ((fin hs hl h90 a4 (rr := r') (V' := Y')).2.1 rfl)
      · have hnone := ((fin hs hl h90 a4 (rr := r') (V' := Y')).2.2 rfl).1
        have heq : X (5 + 8 * p) 8 = cli X (Y 75 p) (cco X p (Y 80 (Y 75 p) &&& rps Y p) 4) 4 ↔ ∀ j, j < 4 → W 78 (4 * p + j) = W 90 j := by
          constructor
          · intro z j hj
            rw [h90 j hj, ← z, s9 j hj, hs 78 (4 * p + j) (by decide) (by omega)]
          · intro z
            refine pkd_ext s8 hl (fun j hj => ?_)
            rw [← h90 j hj, ← z j hj, s9 j hj, hs 78 (4 * p + j) (by decide) (by omega)]
        rcases hr with ⟨y1, -⟩ | ⟨-, q, hq, y2, -⟩ | ⟨y1, -⟩ | ⟨-, -, y3, rfl, rfl⟩ | ⟨-, -, y3, rfl, rfl⟩
        · exact absurd y1 (by decide)
        · exact absurd y2 (hnone q hq)
        · exact absurd y1 (by decide)
        · rcases a5 with ⟨-, rfl, rfl⟩ | ⟨a6, -⟩
          · exact ⟨rfl, hZ⟩
          · exact absurd (heq.mp a6) y3
        · rcases a5 with ⟨a6, -⟩ | ⟨-, rfl, rfl⟩
          · exact absurd (heq.mpr y3) a6
          · refine ⟨rfl, ?_⟩
            have := sim_en hZ hp (by rw [w75]; exact d2) (W 69 22)
            rw [s5, e3] at this
            rw [← hco]
            exact this
end
section
section G2
variable {p : Program} {l : Launch} {e : Env} {R : Room} {s : State} {m : MethodId} {args : Array Value} {below : List Frame} {meth : Method} {c : Code} {D : va_G} {cl : List vw_C} {A : Nat → Prop} {k n : Nat} {Q : State → Prop} {w : va_W} {L : List (Option Value)} {pc : Nat} {st : List Value} {cc : ByteArray}
theorem g_L {L' : List (Option Value)} (h : L = L') (kk : G p l e R s m args below meth c D cl A k n Q w L' pc st) : G p l e R s m args below meth c D cl A k n Q w L pc st := h ▸ kk
/-- a loop: a number that grows up to E -/
theorem g_loop (E : Nat) (Vf : Nat → va_W) (Lf : Nat → List (Option Value)) (I : Nat → Prop) (q0 : Nat) (h0 : q0 ≤ E) (hI : I q0) (hw : w = Vf q0) (hL : L = Lf q0)
    (step : ∀ q, q0 ≤ q → q ≤ E → I q → (q < E → I (q + 1) → G p l e R s m args below meth c D cl A k n Q (Vf (q + 1)) (Lf (q + 1)) pc st) → G p l e R s m args below meth c D cl A k n Q (Vf q) (Lf q) pc st) : G p l e R s m args below meth c D cl A k n Q w L pc st := by
  have key : ∀ d q, q0 ≤ q → q ≤ E → E - q ≤ d → I q → G p l e R s m args below meth c D cl A k n Q (Vf q) (Lf q) pc st := by
    intro d
    induction d with
    | zero => exact fun q h1 h2 h3 hq => step q h1 h2 hq (fun h _ => by omega)
    | succ d ih => exact fun q h1 h2 h3 hq => step q h1 h2 hq (fun h hq2 => ih (q + 1) (by omega) (by omega) (by omega) hq2)
  rw [hw, hL]
  exact key (E - q0) q0 (Nat.le_refl _) h0 (Nat.le_refl _) hI
theorem g_mmax (hx : p.tables.exec = Jvm.exec) (hb : c.code = cc) (hml : c.maxLocals = L.length) {own : String} {index : Nat} (hown : s.vm.findClass own = some m.cls) (hlink : (Cond.methodLink own index Lib.Math.max.name).before args s = true) (hstat : (Cond.static Lib.Math.max.name).before args s = true) (hini : (Cond.initialized "java/lang/Math").before args s = true) (hcode : (Cond.code Lib.Math.max.name Lib.Math.max.code 2 (some .int)).before args s = true)
    (hframes : 1 ≤ R.frames) (hlocals : (st.map fun v => v.category).sum + 13 ≤ R.locals) (hc : k ≤ R.cells ∧ n ≤ R.slots) {x y : Int32} (hd : decode cc pc = .ok (.invokestatic index, 3))
    (kk : G p l e R s m args below meth c D cl A k n Q w L (pc + 3) (.int (if x < y then y else x) :: st)) : G p l e R s m args below meth c D cl A k n Q w L pc (.int y :: .int x :: st) :=
  fun H locs ls hP hS hl => va_mmax hx hb (by rw [hml, hl.1]) hown hlink hstat hini hcode hframes hlocals hc.1 hc.2 hd (kk H locs ls hP hS hl)
theorem g_ldcw (hx : p.tables.exec = Jvm.exec) (hb : c.code = cc) {own : String} {index : Nat} {v : Int32} (hd : decode cc pc = .ok (.ldc_w index, 3)) (hown : s.vm.findClass own = some m.cls) (hc : (Jvm.Cond.constant own index v).before args s = true) (kk : G p l e R s m args below meth c D cl A k n Q w L (pc + 3) (.int v :: st)) : G p l e R s m args below meth c D cl A k n Q w L pc st :=
  fun H locs ls hP hS hl => lv_ldcw hx hb hown hc hd (kk H locs ls hP hS hl)
end G2
abbrev gty (ct : Nat → ClassId) : List (ClassId × FieldType) := [(ct 0, .int), (ct 1, .boolean), (ct 2, .object "GroupViews$ProcessState"), (ct 3, .object "GroupViews$Line")]
def gK (D : va_G) (ct : Nat → ClassId) (U : State) : Prop := va_K D vcl (gty ct) U ∧ ∀ w ∈ tblN, va_Nw w U
def isNst : Cond → Bool
  | .fieldLinkNest .. => true
  | .methodLinkNest .. => true
  | _ => false
theorem tblN_nst : ∀ w ∈ tblN, isNst w = true := by decide +kernel
theorem nst_same {w : Cond} (h : isNst w = true) {u U : State} (e : u.vm = U.vm) (hz : va_Nw w u) : va_Nw w U := by
  cases w <;> first | exact va_Nw.same rfl e hz | (simp [isNst] at h; done)
theorem nst_warm {w : Cond} (h : isNst w = true) {s U : State} (hW : s.WarmedH U.vm) (hz : va_Nw w s) : va_Nw w U := by
  cases w <;> first | exact va_Nw.warmF hW hz | exact va_Nw.warmM hW hz | (simp [isNst] at h; done)
theorem gK_ok (D : va_G) (ct : Nat → ClassId) : K_ok (gK D ct) :=
  ⟨fun _ U _ _ h => ⟨va_K.moved (Vm.Alike.refl U.vm) h.1, fun w hw => nst_same (u := U) (tblN_nst w hw) rfl (h.2 w hw)⟩, fun _ _ hW h => ⟨va_K.moved hW.alike h.1, fun w hw => nst_warm (tblN_nst w hw) hW (h.2 w hw)⟩⟩
abbrev mw (y : MethodName) (bytes : ByteArray) (maxL : Nat) (ret : Option FieldType) : List Cond := Cond.code y bytes maxL ret :: tblG
theorem good_in {cx : Cond} {ws : List Cond} (h : ∀ w ∈ ws, w ∈ tblG) : GoodIn (cx :: tblG) ws := fun w hw => ⟨List.mem_cons_of_mem _ (h w hw), tblG_good w (h w hw)⟩
theorem good_mw {cx : Cond} {y : MethodName} {bytes : ByteArray} {maxL : Nat} {ret : Option FieldType} (m4 : Cond.code y bytes maxL ret ∈ tblG) : GoodIn (cx :: tblG) (mw y bytes maxL ret) := good_in (fun w hw => by
  rcases List.mem_cons.mp hw with h | h
  · rw [h]; exact m4
  · exact h)
section MK
variable {s : State} {args : Array Value} {R rm : Room} {own C host : String} {idx maxL nn : Nat} {y : MethodName} {bytes : ByteArray} {ret : Option FieldType} {cx : Cond}
theorem mk_S (hts : ∀ w ∈ cx :: tblG, w.before args s = true) (m1 : Cond.methodLink own idx y ∈ tblG) (m2 : Cond.static y ∈ tblG) (m3 : Cond.initialized y.cls ∈ tblG) (m4 : Cond.code y bytes maxL ret ∈ tblG) (hrc : rm.cells = 0) (hrs : rm.slots = 0)
    (hd : y.cls ≠ "java/lang/invoke/MethodHandle" ∧ y.cls ≠ "java/lang/invoke/VarHandle" ∧ (parseMethodDescriptor y.desc).map (fun d => d.parameters.length) = some nn) (hR : rm.frames + 1 ≤ R.frames ∧ 8 + (maxL + 11) + rm.locals ≤ R.locals) :
    CallB R s args own idx y bytes maxL ret (mw y bytes maxL ret) rm 0 0 nn ∧ (Cond.static y).before args s = true :=
  ⟨callB_of nn hts (good_mw m4) rfl hrc hrs (hts _ (List.mem_cons_of_mem _ m3)) (hts _ (List.mem_cons_of_mem _ m1)) hd hR, hts _ (List.mem_cons_of_mem _ m2)⟩
theorem mk_V (hts : ∀ w ∈ cx :: tblG, w.before args s = true) (m1 : Cond.methodLink own idx y ∈ tblG) (m2 : Cond.instanceMethod y ∈ tblG) (m5 : Cond.selects C y y ∈ tblG) (m3 : Cond.initialized y.cls ∈ tblG) (m4 : Cond.code y bytes maxL ret ∈ tblG) (hrc : rm.cells = 0) (hrs : rm.slots = 0)
    (hd : y.cls ≠ "java/lang/invoke/MethodHandle" ∧ y.cls ≠ "java/lang/invoke/VarHandle" ∧ (parseMethodDescriptor y.desc).map (fun d => d.parameters.length) = some nn) (hR : rm.frames + 1 ≤ R.frames ∧ 8 + (maxL + 11) + rm.locals ≤ R.locals) :
    CallW R s args own C idx y bytes maxL ret (mw y bytes maxL ret) rm 0 0 nn :=
  ⟨callB_of nn hts (good_mw m4) rfl hrc hrs (hts _ (List.mem_cons_of_mem _ m3)) (hts _ (List.mem_cons_of_mem _ m1)) hd hR, hts _ (List.mem_cons_of_mem _ m2), hts _ (List.mem_cons_of_mem _ m5)⟩
theorem mk_VN {D : va_G} {ct : Nat → ClassId} (hK : gK D ct s) (hts : ∀ w ∈ cx :: tblG, w.before args s = true) (m1 : Cond.methodLinkNest own idx y host ∈ tblN) (m2 : Cond.instanceMethod y ∈ tblG) (m5 : Cond.selects C y y ∈ tblG) (m3 : Cond.initialized y.cls ∈ tblG) (m4 : Cond.code y bytes maxL ret ∈ tblG) (hrc : rm.cells = 0) (hrs : rm.slots = 0)
    (hd : y.cls ≠ "java/lang/invoke/MethodHandle" ∧ y.cls ≠ "java/lang/invoke/VarHandle" ∧ (parseMethodDescriptor y.desc).map (fun d => d.parameters.length) = some nn) (hR : rm.frames + 1 ≤ R.frames ∧ 8 + (maxL + 11) + rm.locals ≤ R.locals) :
    va_CN R s args own idx y host bytes maxL ret (mw y bytes maxL ret) rm 0 0 nn ∧ (Cond.instanceMethod y).before args s = true ∧ (Cond.selects C y y).before args s = true :=
  ⟨va_cnB nn hts (good_mw m4) rfl hrc hrs (hK.2 _ m1) (hts _ (List.mem_cons_of_mem _ m3)) hd hR, hts _ (List.mem_cons_of_mem _ m2), hts _ (List.mem_cons_of_mem _ m5)⟩
theorem in_mw {ws : List Cond} (h : ∀ w ∈ ws, w ∈ tblG) : ∀ w ∈ ws, w ∈ cx :: tblG := fun w hw => List.mem_cons_of_mem _ (h w hw)
end MK
theorem nst_use {D : va_G} {ct : Nat → ClassId} {s : State} {w : Cond} (hK : gK D ct s) (hw : w ∈ tblN) (args : Array Value) : w.before args s = true := by
  have h := tblN_nst w hw
  have hz := hK.2 w hw
  cases w <;> first | exact va_Nw.use rfl hz | (simp [isNst] at h; done)
theorem fP {ad : Nat → Nat} {j : Nat} (h : j < 4) : (fun i => if i < 4 then some (ad (5 + 8 * i)) else none) j = some (ad (5 + 8 * j)) := if_pos h
theorem fL {ad : Nat → Nat} {j : Nat} (h : j < 16) : (fun i => if i < 16 then some (ad (37 + 2 * i)) else none) j = some (ad (37 + 2 * j)) := if_pos h
theorem k_iconst_0 : Int32.ofInt 0 = nI 0 := by decide +kernel
theorem k_iconst_1 : Int32.ofInt 1 = nI 1 := by decide +kernel
theorem k_iconst_2 : Int32.ofInt 2 = nI 2 := by decide +kernel
theorem k_iconst_3 : Int32.ofInt 3 = nI 3 := by decide +kernel
theorem k_iconst_4 : Int32.ofInt 4 = nI 4 := by decide +kernel
theorem k_iconst_5 : Int32.ofInt 5 = nI 5 := by decide +kernel
theorem k_bipush_8 : (Int8.ofInt 8).toInt32 = nI 8 := by decide +kernel
theorem k_bipush_15 : (Int8.ofInt 15).toInt32 = nI 15 := by decide +kernel
theorem k_bipush_16 : (Int8.ofInt 16).toInt32 = nI 16 := by decide +kernel
theorem k_bipush_64 : (Int8.ofInt 64).toInt32 = nI 64 := by decide +kernel
theorem k_bipush_75 : (Int8.ofInt 75).toInt32 = nI 75 := by decide +kernel
theorem k_bipush_80 : (Int8.ofInt 80).toInt32 = nI 80 := by decide +kernel
theorem k_bipush_63 : (Int8.ofInt 63).toInt32 = nI 63 := by decide +kernel
theorem k_sipush_255 : (Int16.ofInt 255).toInt32 = nI 255 := by decide +kernel
theorem k_sipush_256 : (Int16.ofInt 256).toInt32 = nI 256 := by decide +kernel
theorem k_sipush_1024 : (Int16.ofInt 1024).toInt32 = nI 1024 := by decide +kernel
theorem k_sipush_1280 : (Int16.ofInt 1280).toInt32 = nI 1280 := by decide +kernel
theorem k_iconst_m1 : Int32.ofInt (-1) = (-1) := by decide +kernel
theorem k_bipush_m2 : (Int8.ofInt (-2)).toInt32 = (-2) := by decide +kernel
theorem k_bipush_m3 : (Int8.ofInt (-3)).toInt32 = (-3) := by decide +kernel
theorem k_bipush_m4 : (Int8.ofInt (-4)).toInt32 = (-4) := by decide +kernel
end
section
theorem q_p32 {n : Nat} (h : n < 31) : 1 * 2 ^ n < 2 ^ 32 := by
  rw [Nat.one_mul]
  exact Nat.pow_lt_pow_right (by decide) (by omega)
theorem q_ge1 {n : Nat} (h : n < 2 ^ 32) (hc : ¬ nI n < nI 1) : 1 ≤ n ∧ n < 2 ^ 31 := by
  by_cases hn : n < 2 ^ 31
  · refine ⟨?_, hn⟩
    rcases Nat.eq_zero_or_pos n with z | z
    · subst z
      exact absurd (nI_lt (by decide) (by decide)) hc
    · exact z
  · exfalso
    apply hc
    have h1 := (q_lt0 h).mpr (by omega)
    have e1 := Int32.lt_iff_toInt_lt.mp h1
    have e2 : (nI 1).toInt = 1 := nI_toInt (n := 1) (by decide)
    rw [Int32.lt_iff_toInt_lt]
    have e0 : (0 : Int32).toInt = 0 := rfl
    omega
set_option maxRecDepth 100000 in
set_option maxHeartbeats 4000000 in
theorem ct_GV_isProcess (l : Launch) (D : va_G) (ad : Nat → Nat) (ct : Nat → ClassId) (had : adOk ad) (V : VV) (n : Nat) (h : n < 2 ^ 32) : CTi l y_GV_isProcess (mw y_GV_isProcess c_GV_isProcess 1 (some .boolean)) { frames := 0, cells := 0, slots := 0, locals := 0 } (gK D ct) D vcl (gA ad) [.int (nI n)] (gw ad ct V) (fun r w => r = nI (bN (n < 4)) ∧ w = gw ad ct V) := by
  refine ct_i (by decide) rfl rfl (Nat.le_of_ble_eq_true rfl) ?_
  intro pg en sx mx blw mth cdx hx hb hr hts hown hlk hml hK
  refine g_L (L' := [_]) rfl ?_
  refine g_iload_n hx hb d_GV_isProcess_0 rfl rfl ?_
  refine g_if_lt (tgt := 13) hx hb d_GV_isProcess_1 (by decide) (fun hc1 => ?_) (fun hc1 => ?_)
  · have hc1 := (q_lt0 h).mp hc1
    refine g_iconst hx hb d_GV_isProcess_13 k_iconst_0 ?_
    exact g_zret hx hb hr hlk (by decide +kernel) d_GV_isProcess_14 (⟨by first | rw [bN_t (by omega)] | rw [bN_f (by omega)], rfl⟩)
  · have hc1 : n < 2 ^ 31 := Nat.not_le.mp (fun z => hc1 ((q_lt0 h).mpr z))
    refine g_iload_n hx hb d_GV_isProcess_4 rfl rfl ?_
    refine g_iconst hx hb d_GV_isProcess_5 k_iconst_4 ?_
    refine n_icmp_ge (tgt := 13) hx hb d_GV_isProcess_6 (by decide) (by omega) (by omega) (fun hc2 => ?_) (fun hc2 => ?_)
    · refine g_iconst hx hb d_GV_isProcess_13 k_iconst_0 ?_
      exact g_zret hx hb hr hlk (by decide +kernel) d_GV_isProcess_14 (⟨by first | rw [bN_t (by omega)] | rw [bN_f (by omega)], rfl⟩)
    · refine g_iconst hx hb d_GV_isProcess_9 k_iconst_1 ?_
      refine g_goto (tgt := 14) hx hb d_GV_isProcess_10 (by decide) ?_
      exact g_zret hx hb hr hlk (by decide +kernel) d_GV_isProcess_14 (⟨by first | rw [bN_t (by omega)] | rw [bN_f (by omega)], rfl⟩)
set_option maxRecDepth 100000 in
set_option maxHeartbeats 4000000 in
theorem ct_GV_isLine (l : Launch) (D : va_G) (ad : Nat → Nat) (ct : Nat → ClassId) (had : adOk ad) (V : VV) (a b : Nat) (h1 : a < 2 ^ 32) (h2 : b < 2 ^ 32) : CTi l y_GV_isLine (mw y_GV_isLine c_GV_isLine 2 (some .boolean)) { frames := 1, cells := 0, slots := 0, locals := 20 } (gK D ct) D vcl (gA ad) [.int (nI a), .int (nI b)] (gw ad ct V) (fun r w => r = nI (bN (a < 4 ∧ b < 4 ∧ ¬ a = b)) ∧ w = gw ad ct V) := by
  refine ct_i (by decide) rfl rfl (Nat.le_of_ble_eq_true rfl) ?_
  intro pg en sx mx blw mth cdx hx hb hr hts hown hlk hml hK
  refine g_L (L' := [_, _]) rfl ?_
  refine g_iload_n hx hb d_GV_isLine_0 rfl rfl ?_
  refine g_callSi (nn := 1) ⟨hx, hb, hml.trans rfl, hown, hts⟩ (ct_GV_isProcess l D ad ct had _ _ (by omega)) (mk_S hts t_119 t_120 t_1 t_121 rfl rfl (by decide +kernel) ⟨Nat.le_of_ble_eq_true rfl, Nat.le_of_ble_eq_true rfl⟩) (fun _ h => h) (gK_ok D ct) hK (Nat.le_of_ble_eq_true rfl) ⟨Nat.zero_le _, Nat.zero_le _⟩ rfl rfl d_GV_isLine_1 ?_
  rintro _ _ ⟨rfl, rfl⟩
  refine n_if_eq (tgt := 23) hx hb d_GV_isLine_4 (by decide) bN_lt (fun hc1 => ?_) (fun hc1 => ?_)
  · have hc1 := bN_0.mp hc1
    refine g_iconst hx hb d_GV_isLine_23 k_iconst_0 ?_
    exact g_zret hx hb hr hlk (by decide +kernel) d_GV_isLine_24 (⟨by first | rw [bN_t (by omega)] | rw [bN_f (by omega)], rfl⟩)
  · have hc1 := bN_n0.mp hc1
    refine g_iload_n hx hb d_GV_isLine_7 rfl rfl ?_
    refine g_callSi (nn := 1) ⟨hx, hb, hml.trans rfl, hown, hts⟩ (ct_GV_isProcess l D ad ct had _ _ (by omega)) (mk_S hts t_119 t_120 t_1 t_121 rfl rfl (by decide +kernel) ⟨Nat.le_of_ble_eq_true rfl, Nat.le_of_ble_eq_true rfl⟩) (fun _ h => h) (gK_ok D ct) hK (Nat.le_of_ble_eq_true rfl) ⟨Nat.zero_le _, Nat.zero_le _⟩ rfl rfl d_GV_isLine_8 ?_
    rintro _ _ ⟨rfl, rfl⟩
    refine n_if_eq (tgt := 23) hx hb d_GV_isLine_11 (by decide) bN_lt (fun hc2 => ?_) (fun hc2 => ?_)
    · have hc2 := bN_0.mp hc2
      refine g_iconst hx hb d_GV_isLine_23 k_iconst_0 ?_
      exact g_zret hx hb hr hlk (by decide +kernel) d_GV_isLine_24 (⟨by first | rw [bN_t (by omega)] | rw [bN_f (by omega)], rfl⟩)
    · have hc2 := bN_n0.mp hc2
      refine g_iload_n hx hb d_GV_isLine_14 rfl rfl ?_
      refine g_iload_n hx hb d_GV_isLine_15 rfl rfl ?_
      refine n_icmp_eq (tgt := 23) hx hb d_GV_isLine_16 (by decide) (by omega) (by omega) (fun hc3 => ?_) (fun hc3 => ?_)
      · refine g_iconst hx hb d_GV_isLine_23 k_iconst_0 ?_
        exact g_zret hx hb hr hlk (by decide +kernel) d_GV_isLine_24 (⟨by first | rw [bN_t (by omega)] | rw [bN_f (by omega)], rfl⟩)
      · refine g_iconst hx hb d_GV_isLine_19 k_iconst_1 ?_
        refine g_goto (tgt := 24) hx hb d_GV_isLine_20 (by decide) ?_
        exact g_zret hx hb hr hlk (by decide +kernel) d_GV_isLine_24 (⟨by first | rw [bN_t (by omega)] | rw [bN_f (by omega)], rfl⟩)
set_option maxRecDepth 100000 in
set_option maxHeartbeats 4000000 in
theorem ct_GV_isNonEmptySet (l : Launch) (D : va_G) (ad : Nat → Nat) (ct : Nat → ClassId) (had : adOk ad) (V : VV) (n : Nat) (h : n < 2 ^ 32) : CTi l y_GV_isNonEmptySet (mw y_GV_isNonEmptySet c_GV_isNonEmptySet 1 (some .boolean)) { frames := 0, cells := 0, slots := 0, locals := 0 } (gK D ct) D vcl (gA ad) [.int (nI n)] (gw ad ct V) (fun r w => r = nI (bN (1 ≤ n ∧ n ≤ 15)) ∧ w = gw ad ct V) := by
  refine ct_i (by decide) rfl rfl (Nat.le_of_ble_eq_true rfl) ?_
  intro pg en sx mx blw mth cdx hx hb hr hts hown hlk hml hK
  refine g_L (L' := [_]) rfl ?_
  refine g_iload_n hx hb d_GV_isNonEmptySet_0 rfl rfl ?_
  refine g_iconst hx hb d_GV_isNonEmptySet_1 k_iconst_1 ?_
  refine g_icmp_lt (tgt := 15) hx hb d_GV_isNonEmptySet_2 (by decide) (fun hc1 => ?_) (fun hc1 => ?_)
  · have hc1 : ¬ (1 ≤ n ∧ n ≤ 15) := fun z => (nI_nlt z.1 (by omega)) hc1
    refine g_iconst hx hb d_GV_isNonEmptySet_15 k_iconst_0 ?_
    exact g_zret hx hb hr hlk (by decide +kernel) d_GV_isNonEmptySet_16 (⟨by first | rw [bN_t (by omega)] | rw [bN_f (by omega)], rfl⟩)
  · have hc1 : 1 ≤ n ∧ n < 2 ^ 31 := q_ge1 h hc1
    refine g_iload_n hx hb d_GV_isNonEmptySet_5 rfl rfl ?_
    refine g_bipush hx hb d_GV_isNonEmptySet_6 k_bipush_15 ?_
    refine n_icmp_gt (tgt := 15) hx hb d_GV_isNonEmptySet_8 (by decide) (by omega) (by omega) (fun hc2 => ?_) (fun hc2 => ?_)
    · refine g_iconst hx hb d_GV_isNonEmptySet_15 k_iconst_0 ?_
      exact g_zret hx hb hr hlk (by decide +kernel) d_GV_isNonEmptySet_16 (⟨by first | rw [bN_t (by omega)] | rw [bN_f (by omega)], rfl⟩)
    · refine g_iconst hx hb d_GV_isNonEmptySet_11 k_iconst_1 ?_
      refine g_goto (tgt := 16) hx hb d_GV_isNonEmptySet_12 (by decide) ?_
      exact g_zret hx hb hr hlk (by decide +kernel) d_GV_isNonEmptySet_16 (⟨by first | rw [bN_t (by omega)] | rw [bN_f (by omega)], rfl⟩)
set_option maxRecDepth 100000 in
set_option maxHeartbeats 4000000 in
theorem ct_GV_has (l : Launch) (D : va_G) (ad : Nat → Nat) (ct : Nat → ClassId) (had : adOk ad) (V : VV) (a p : Nat) (h1 : a < 2 ^ 31) (h2 : p < 32) : CTi l y_GV_has (mw y_GV_has c_GV_has 2 (some .boolean)) { frames := 0, cells := 0, slots := 0, locals := 0 } (gK D ct) D vcl (gA ad) [.int (nI a), .int (nI p)] (gw ad ct V) (fun r w => r = nI (a / 2 ^ p % 2) ∧ w = gw ad ct V) := by
  refine ct_i (by decide) rfl rfl (Nat.le_of_ble_eq_true rfl) ?_
  intro pg en sx mx blw mth cdx hx hb hr hts hown hlk hml hK
  refine g_L (L' := [_, _]) rfl ?_
  refine g_iload_n hx hb d_GV_has_0 rfl rfl ?_
  refine g_iload_n hx hb d_GV_has_1 rfl rfl ?_
  refine n_ishr hx hb d_GV_has_2 (by omega) (by omega) ?_
  refine g_iconst hx hb d_GV_has_3 k_iconst_1 ?_
  refine n_iand hx hb d_GV_has_4 ?_
  refine g_iconst hx hb d_GV_has_5 k_iconst_1 ?_
  refine g_val2 (show nI _ = nI (a / 2 ^ p % 2) from congrArg nI (Nat.and_one_is_mod _)) ?_
  refine n_icmp_ne (tgt := 13) hx hb d_GV_has_6 (by decide) (by omega) (by omega) (fun hc1 => ?_) (fun hc1 => ?_)
  · refine g_iconst hx hb d_GV_has_13 k_iconst_0 ?_
    exact g_zret hx hb hr hlk (by decide +kernel) d_GV_has_14 (⟨by congr 1; omega, rfl⟩)
  · refine g_iconst hx hb d_GV_has_9 k_iconst_1 ?_
    refine g_goto (tgt := 14) hx hb d_GV_has_10 (by decide) ?_
    exact g_zret hx hb hr hlk (by decide +kernel) d_GV_has_14 (⟨by congr 1; omega, rfl⟩)
set_option maxRecDepth 100000 in
set_option maxHeartbeats 4000000 in
theorem ct_GV_lineIndex (l : Launch) (D : va_G) (ad : Nat → Nat) (ct : Nat → ClassId) (had : adOk ad) (V : VV) (a b : Nat)  : CTi l y_GV_lineIndex (mw y_GV_lineIndex c_GV_lineIndex 2 (some .int)) { frames := 0, cells := 0, slots := 0, locals := 0 } (gK D ct) D vcl (gA ad) [.int (nI a), .int (nI b)] (gw ad ct V) (fun r w => r = nI (a * 4 + b) ∧ w = gw ad ct V) := by
  refine ct_i (by decide) rfl rfl (Nat.le_of_ble_eq_true rfl) ?_
  intro pg en sx mx blw mth cdx hx hb hr hts hown hlk hml hK
  refine g_L (L' := [_, _]) rfl ?_
  refine g_iload_n hx hb d_GV_lineIndex_0 rfl rfl ?_
  refine g_iconst hx hb d_GV_lineIndex_1 k_iconst_4 ?_
  refine n_imul hx hb d_GV_lineIndex_2 ?_
  refine g_iload_n hx hb d_GV_lineIndex_3 rfl rfl ?_
  refine n_iadd hx hb d_GV_lineIndex_4 ?_
  exact g_iret hx hb hr hlk d_GV_lineIndex_5 (⟨rfl, rfl⟩)
set_option maxRecDepth 100000 in
set_option maxHeartbeats 4000000 in
theorem ct_GV_startIndex (l : Launch) (D : va_G) (ad : Nat → Nat) (ct : Nat → ClassId) (had : adOk ad) (V : VV) (a b : Nat)  : CTi l y_GV_startIndex (mw y_GV_startIndex c_GV_startIndex 2 (some .int)) { frames := 0, cells := 0, slots := 0, locals := 0 } (gK D ct) D vcl (gA ad) [.int (nI a), .int (nI b)] (gw ad ct V) (fun r w => r = nI (a * 4 + b) ∧ w = gw ad ct V) := by
  refine ct_i (by decide) rfl rfl (Nat.le_of_ble_eq_true rfl) ?_
  intro pg en sx mx blw mth cdx hx hb hr hts hown hlk hml hK
  refine g_L (L' := [_, _]) rfl ?_
  refine g_iload_n hx hb d_GV_startIndex_0 rfl rfl ?_
  refine g_iconst hx hb d_GV_startIndex_1 k_iconst_4 ?_
  refine n_imul hx hb d_GV_startIndex_2 ?_
  refine g_iload_n hx hb d_GV_startIndex_3 rfl rfl ?_
  refine n_iadd hx hb d_GV_startIndex_4 ?_
  exact g_iret hx hb hr hlk d_GV_startIndex_5 (⟨rfl, rfl⟩)
set_option maxRecDepth 100000 in
set_option maxHeartbeats 4000000 in
theorem ct_GV_slotOf (l : Launch) (D : va_G) (ad : Nat → Nat) (ct : Nat → ClassId) (had : adOk ad) (V : VV) (a b : Nat) (h : 1 ≤ b) : CTi l y_GV_slotOf (mw y_GV_slotOf c_GV_slotOf 2 (some .int)) { frames := 0, cells := 0, slots := 0, locals := 0 } (gK D ct) D vcl (gA ad) [.int (nI a), .int (nI b)] (gw ad ct V) (fun r w => r = nI (a * 4 + b - 1) ∧ w = gw ad ct V) := by
  refine ct_i (by decide) rfl rfl (Nat.le_of_ble_eq_true rfl) ?_
  intro pg en sx mx blw mth cdx hx hb hr hts hown hlk hml hK
  refine g_L (L' := [_, _]) rfl ?_
  refine g_iload_n hx hb d_GV_slotOf_0 rfl rfl ?_
  refine g_iconst hx hb d_GV_slotOf_1 k_iconst_4 ?_
  refine n_imul hx hb d_GV_slotOf_2 ?_
  refine g_iload_n hx hb d_GV_slotOf_3 rfl rfl ?_
  refine n_iadd hx hb d_GV_slotOf_4 ?_
  refine g_iconst hx hb d_GV_slotOf_5 k_iconst_1 ?_
  refine n_isub hx hb d_GV_slotOf_6 (by omega) ?_
  exact g_iret hx hb hr hlk d_GV_slotOf_7 (⟨rfl, rfl⟩)
set_option maxRecDepth 100000 in
set_option maxHeartbeats 4000000 in
theorem ct_GV_viewOfSlot (l : Launch) (D : va_G) (ad : Nat → Nat) (ct : Nat → ClassId) (had : adOk ad) (V : VV) (a : Nat) (h : a < 2 ^ 31) : CTi l y_GV_viewOfSlot (mw y_GV_viewOfSlot c_GV_viewOfSlot 1 (some .int)) { frames := 0, cells := 0, slots := 0, locals := 0 } (gK D ct) D vcl (gA ad) [.int (nI a)] (gw ad ct V) (fun r w => r = nI (a / 4) ∧ w = gw ad ct V) := by
  refine ct_i (by decide) rfl rfl (Nat.le_of_ble_eq_true rfl) ?_
  intro pg en sx mx blw mth cdx hx hb hr hts hown hlk hml hK
  refine g_L (L' := [_]) rfl ?_
  refine g_iload_n hx hb d_GV_viewOfSlot_0 rfl rfl ?_
  refine g_iconst hx hb d_GV_viewOfSlot_1 k_iconst_4 ?_
  refine n_idiv hx hb d_GV_viewOfSlot_2 (by omega) (by decide) (by decide) ?_
  exact g_iret hx hb hr hlk d_GV_viewOfSlot_3 (⟨rfl, rfl⟩)
set_option maxRecDepth 100000 in
set_option maxHeartbeats 4000000 in
theorem ct_GV_numberOfSlot (l : Launch) (D : va_G) (ad : Nat → Nat) (ct : Nat → ClassId) (had : adOk ad) (V : VV) (a : Nat) (h : a < 2 ^ 31) : CTi l y_GV_numberOfSlot (mw y_GV_numberOfSlot c_GV_numberOfSlot 1 (some .int)) { frames := 0, cells := 0, slots := 0, locals := 0 } (gK D ct) D vcl (gA ad) [.int (nI a)] (gw ad ct V) (fun r w => r = nI (a % 4 + 1) ∧ w = gw ad ct V) := by
  refine ct_i (by decide) rfl rfl (Nat.le_of_ble_eq_true rfl) ?_
  intro pg en sx mx blw mth cdx hx hb hr hts hown hlk hml hK
  refine g_L (L' := [_]) rfl ?_
  refine g_iload_n hx hb d_GV_numberOfSlot_0 rfl rfl ?_
  refine g_iconst hx hb d_GV_numberOfSlot_1 k_iconst_4 ?_
  refine n_irem hx hb d_GV_numberOfSlot_2 (by omega) (by decide) (by decide) ?_
  refine g_iconst hx hb d_GV_numberOfSlot_3 k_iconst_1 ?_
  refine n_iadd hx hb d_GV_numberOfSlot_4 ?_
  exact g_iret hx hb hr hlk d_GV_numberOfSlot_5 (⟨rfl, rfl⟩)
set_option maxRecDepth 100000 in
set_option maxHeartbeats 4000000 in
theorem ct_GV_countOf (l : Launch) (D : va_G) (ad : Nat → Nat) (ct : Nat → ClassId) (had : adOk ad) (V : VV) (x r0 : Nat) (h1 : x < 2 ^ 31) (h2 : r0 < 4) : CTi l y_GV_countOf (mw y_GV_countOf c_GV_countOf 2 (some .int)) { frames := 0, cells := 0, slots := 0, locals := 0 } (gK D ct) D vcl (gA ad) [.int (nI x), .int (nI r0)] (gw ad ct V) (fun r w => r = nI (cnt x r0) ∧ w = gw ad ct V) := by
  refine ct_i (by decide) rfl rfl (Nat.le_of_ble_eq_true rfl) ?_
  intro pg en sx mx blw mth cdx hx hb hr hts hown hlk hml hK
  refine g_L (L' := [_, _]) rfl ?_
  refine g_iload_n hx hb d_GV_countOf_0 rfl rfl ?_
  refine g_iload_n hx hb d_GV_countOf_1 rfl rfl ?_
  refine g_bipush hx hb d_GV_countOf_2 k_bipush_8 ?_
  refine n_imul hx hb d_GV_countOf_4 ?_
  refine n_ishr hx hb d_GV_countOf_5 (by omega) (by omega) ?_
  refine g_sipush hx hb d_GV_countOf_6 k_sipush_255 ?_
  refine n_iand hx hb d_GV_countOf_9 ?_
  exact g_iret hx hb hr hlk d_GV_countOf_10 (⟨congrArg nI (Nat.and_two_pow_sub_one_eq_mod _ 8), rfl⟩)
set_option maxRecDepth 100000 in
set_option maxHeartbeats 4000000 in
theorem ct_GV_withCount (l : Launch) (D : va_G) (ad : Nat → Nat) (ct : Nat → ClassId) (had : adOk ad) (V : VV) (x p y : Nat) (h1 : pkd x) (h2 : p < 4) (h3 : y ≤ 4) : CTi l y_GV_withCount (mw y_GV_withCount c_GV_withCount 4 (some .int)) { frames := 0, cells := 0, slots := 0, locals := 0 } (gK D ct) D vcl (gA ad) [.int (nI x), .int (nI p), .int (nI y)] (gw ad ct V) (fun r w => r = nI (wc x p y) ∧ w = gw ad ct V) := by
  refine ct_i (by decide) rfl rfl (Nat.le_of_ble_eq_true rfl) ?_
  intro pg en sx mx blw mth cdx hx hb hr hts hown hlk hml hK
  refine g_L (L' := [_, _, _, _]) rfl ?_
  refine g_iload_n hx hb d_GV_withCount_0 rfl rfl ?_
  refine g_bipush hx hb d_GV_withCount_1 k_bipush_8 ?_
  refine n_imul hx hb d_GV_withCount_3 ?_
  refine g_istore_n (L' := [_, _, _, _]) hx hb d_GV_withCount_4 rfl (Nat.le_of_ble_eq_true rfl) rfl ?_
  refine g_iload_n hx hb d_GV_withCount_5 rfl rfl ?_
  refine g_sipush hx hb d_GV_withCount_6 k_sipush_255 ?_
  refine g_iload_n hx hb d_GV_withCount_9 rfl rfl ?_
  refine g_ishl hx hb d_GV_withCount_10 ?_
  refine g_iconst hx hb d_GV_withCount_11 k_iconst_m1 ?_
  refine g_ixor hx hb d_GV_withCount_12 ?_
  refine g_iand hx hb d_GV_withCount_13 ?_
  refine g_iload_n hx hb d_GV_withCount_14 rfl rfl ?_
  refine g_iload_n hx hb d_GV_withCount_15 rfl rfl ?_
  refine g_ishl hx hb d_GV_withCount_16 ?_
  refine g_ior hx hb d_GV_withCount_17 ?_
  exact g_iret hx hb hr hlk d_GV_withCount_18 (⟨wc_int h1 h2 h3, rfl⟩)
set_option maxRecDepth 100000 in
set_option maxHeartbeats 4000000 in
theorem ct_LN_put (l : Launch) (D : va_G) (ad : Nat → Nat) (ct : Nat → ClassId) (had : adOk ad) (V : VV) (i x : Nat) (hi : i < 16) (hE : V (37 + 2 * i) 2 ≤ 75) : CTv l y_LN_put (mw y_LN_put c_LN_put 2 none) { frames := 0, cells := 0, slots := 0, locals := 0 } (gK D ct) D vcl (gA ad) [.ref (ad (37 + 2 * i)), .int (nI x)] (gw ad ct V) (fun w => w = gw ad ct (cput V i x)) := by
  refine ct_v (by decide) rfl rfl (Nat.le_of_ble_eq_true rfl) ?_
  intro pg en sx mx blw mth cdx hx hb hr hts hown hlk hml hK
  refine g_L (L' := [_, _]) rfl ?_
  refine g_aload_n hx hb d_LN_put_0 rfl rfl ?_
  refine g_get hx hb hts (in_mw in_LN) hown hK.1 (w_L hi) rfl 2 (by decide) (hts _ (List.mem_cons_of_mem _ t_91)) rfl d_LN_put_1 ?_
  refine g_aload_n hx hb d_LN_put_4 rfl rfl ?_
  refine g_get hx hb hts (in_mw in_LN) hown hK.1 (w_L hi) rfl 0 (by decide) (hts _ (List.mem_cons_of_mem _ t_89)) rfl d_LN_put_5 ?_
  refine g_alen (len := 75) hx hb hK.1 (w_La hi) 0 rfl rfl d_LN_put_8 ?_
  refine n_icmp_ge (tgt := 32) hx hb d_LN_put_9 (by decide) (by omega) (by omega) (fun hc1 => ?_) (fun hc1 => ?_)
  · exact g_vret hx hb hr hlk d_LN_put_32 (by unfold cput; rw [if_neg (by omega)])
  · refine g_aload_n hx hb d_LN_put_12 rfl rfl ?_
    refine g_get hx hb hts (in_mw in_LN) hown hK.1 (w_L hi) rfl 0 (by decide) (hts _ (List.mem_cons_of_mem _ t_89)) rfl d_LN_put_13 ?_
    refine g_aload_n hx hb d_LN_put_16 rfl rfl ?_
    refine g_get hx hb hts (in_mw in_LN) hown hK.1 (w_L hi) rfl 2 (by decide) (hts _ (List.mem_cons_of_mem _ t_91)) rfl d_LN_put_17 ?_
    refine g_iload_n hx hb d_LN_put_20 rfl rfl ?_
    refine g_iast hx hb hK.1 (gw_D had) (w_La hi) 0 rfl (show _ < 75 by omega) (by decide) d_LN_put_21 (s_La hi _ _) ?_
    refine g_aload_n hx hb d_LN_put_22 rfl rfl ?_
    refine g_dup hx hb d_LN_put_23 rfl ?_
    refine g_get hx hb hts (in_mw in_LN) hown hK.1 (w_L hi) rfl 2 (by decide) (hts _ (List.mem_cons_of_mem _ t_91)) rfl d_LN_put_24 ?_
    refine g_val (show nI _ = nI (V (37 + 2 * i) 2) from congrArg nI (by simp (disch := omega) only [pt_eq, pt_ne, pt_nk])) ?_
    refine g_iconst hx hb d_LN_put_27 k_iconst_1 ?_
    refine n_iadd hx hb d_LN_put_28 ?_
    refine g_put (ty := .int) hx hb hts (in_mw in_LN) ty_LN tyo_LN nm_LN hown hK.1 (gw_D had) (w_L hi) rfl 2 (by decide) (hts _ (List.mem_cons_of_mem _ t_91)) rfl (by decide +kernel) rfl rfl (Nat.le_of_ble_eq_true rfl) d_LN_put_29 (s_L hi 2 _ (by decide) (by decide)) ?_
    exact g_vret hx hb hr hlk d_LN_put_32 (by unfold cput; rw [if_pos (by omega)])
set_option maxRecDepth 100000 in
set_option maxHeartbeats 4000000 in
theorem ct_LN_takeFirst (l : Launch) (D : va_G) (ad : Nat → Nat) (ct : Nat → ClassId) (had : adOk ad) (V : VV) (i : Nat) (hi : i < 16) (hF : V (37 + 2 * i) 1 ≤ 75) (hE : V (37 + 2 * i) 2 ≤ 75) : CTi l y_LN_takeFirst (mw y_LN_takeFirst c_LN_takeFirst 2 (some .int)) { frames := 0, cells := 0, slots := 0, locals := 0 } (gK D ct) D vcl (gA ad) [.ref (ad (37 + 2 * i))] (gw ad ct V) (fun r w => (V (37 + 2 * i) 2 ≤ V (37 + 2 * i) 1 ∧ r = -1 ∧ w = gw ad ct V) ∨ (V (37 + 2 * i) 1 < V (37 + 2 * i) 2 ∧ r = nI (V (37 + 2 * i + 1) (V (37 + 2 * i) 1)) ∧ w = gw ad ct (pt V (37 + 2 * i) 1 (V (37 + 2 * i) 1 + 1)))) := by
  refine ct_i (by decide) rfl rfl (Nat.le_of_ble_eq_true rfl) ?_
  intro pg en sx mx blw mth cdx hx hb hr hts hown hlk hml hK
  refine g_L (L' := [_, _]) rfl ?_
  refine g_aload_n hx hb d_LN_takeFirst_0 rfl rfl ?_
  refine g_get hx hb hts (in_mw in_LN) hown hK.1 (w_L hi) rfl 1 (by decide) (hts _ (List.mem_cons_of_mem _ t_90)) rfl d_LN_takeFirst_1 ?_
  refine g_aload_n hx hb d_LN_takeFirst_4 rfl rfl ?_
  refine g_get hx hb hts (in_mw in_LN) hown hK.1 (w_L hi) rfl 2 (by decide) (hts _ (List.mem_cons_of_mem _ t_91)) rfl d_LN_takeFirst_5 ?_
  refine n_icmp_lt (tgt := 13) hx hb d_LN_takeFirst_8 (by decide) (by omega) (by omega) (fun hc1 => ?_) (fun hc1 => ?_)
  · refine g_aload_n hx hb d_LN_takeFirst_13 rfl rfl ?_
    refine g_get hx hb hts (in_mw in_LN) hown hK.1 (w_L hi) rfl 0 (by decide) (hts _ (List.mem_cons_of_mem _ t_89)) rfl d_LN_takeFirst_14 ?_
    refine g_aload_n hx hb d_LN_takeFirst_17 rfl rfl ?_
    refine g_get hx hb hts (in_mw in_LN) hown hK.1 (w_L hi) rfl 1 (by decide) (hts _ (List.mem_cons_of_mem _ t_90)) rfl d_LN_takeFirst_18 ?_
    refine g_iald hx hb hK.1 (w_La hi) 0 rfl (show _ < 75 by omega) (by decide) rfl d_LN_takeFirst_21 ?_
    refine g_istore_n (L' := [_, _]) hx hb d_LN_takeFirst_22 rfl (Nat.le_of_ble_eq_true rfl) rfl ?_
    refine g_aload_n hx hb d_LN_takeFirst_23 rfl rfl ?_
    refine g_dup hx hb d_LN_takeFirst_24 rfl ?_
    refine g_get hx hb hts (in_mw in_LN) hown hK.1 (w_L hi) rfl 1 (by decide) (hts _ (List.mem_cons_of_mem _ t_90)) rfl d_LN_takeFirst_25 ?_
    refine g_iconst hx hb d_LN_takeFirst_28 k_iconst_1 ?_
    refine n_iadd hx hb d_LN_takeFirst_29 ?_
    refine g_put (ty := .int) hx hb hts (in_mw in_LN) ty_LN tyo_LN nm_LN hown hK.1 (gw_D had) (w_L hi) rfl 1 (by decide) (hts _ (List.mem_cons_of_mem _ t_90)) rfl (by decide +kernel) rfl rfl (Nat.le_of_ble_eq_true rfl) d_LN_takeFirst_30 (s_L hi 1 _ (by decide) (by decide)) ?_
    refine g_iload_n hx hb d_LN_takeFirst_33 rfl rfl ?_
    exact g_iret hx hb hr hlk d_LN_takeFirst_34 (Or.inr ⟨by omega, rfl, rfl⟩)
  · refine g_iconst hx hb d_LN_takeFirst_11 k_iconst_m1 ?_
    exact g_iret hx hb hr hlk d_LN_takeFirst_12 (Or.inl ⟨by omega, rfl, rfl⟩)
set_option maxRecDepth 100000 in
set_option maxHeartbeats 4000000 in
theorem ct_LN_length (l : Launch) (D : va_G) (ad : Nat → Nat) (ct : Nat → ClassId) (had : adOk ad) (V : VV) (i : Nat) (hi : i < 16) (hF : V (37 + 2 * i) 1 ≤ V (37 + 2 * i) 2) : CTi l y_LN_length (mw y_LN_length c_LN_length 1 (some .int)) { frames := 0, cells := 0, slots := 0, locals := 0 } (gK D ct) D vcl (gA ad) [.ref (ad (37 + 2 * i))] (gw ad ct V) (fun r w => r = nI (V (37 + 2 * i) 2 - V (37 + 2 * i) 1) ∧ w = gw ad ct V) := by
  refine ct_i (by decide) rfl rfl (Nat.le_of_ble_eq_true rfl) ?_
  intro pg en sx mx blw mth cdx hx hb hr hts hown hlk hml hK
  refine g_L (L' := [_]) rfl ?_
  refine g_aload_n hx hb d_LN_length_0 rfl rfl ?_
  refine g_get hx hb hts (in_mw in_LN) hown hK.1 (w_L hi) rfl 2 (by decide) (hts _ (List.mem_cons_of_mem _ t_91)) rfl d_LN_length_1 ?_
  refine g_aload_n hx hb d_LN_length_4 rfl rfl ?_
  refine g_get hx hb hts (in_mw in_LN) hown hK.1 (w_L hi) rfl 1 (by decide) (hts _ (List.mem_cons_of_mem _ t_90)) rfl d_LN_length_5 ?_
  refine n_isub hx hb d_LN_length_8 (by omega) ?_
  exact g_iret hx hb hr hlk d_LN_length_9 (⟨rfl, rfl⟩)
set_option maxRecDepth 100000 in
set_option maxHeartbeats 4000000 in
theorem ct_PS_learnMessage (l : Launch) (D : va_G) (ad : Nat → Nat) (ct : Nat → ClassId) (had : adOk ad) (V : VV) (a v r n : Nat) (ha : a < 4) (hv : v * 4 + r < 64) (hn : n < 31) : CTv l y_PS_learnMessage (mw y_PS_learnMessage c_PS_learnMessage 4 none) { frames := 0, cells := 0, slots := 0, locals := 0 } (gK D ct) D vcl (gA ad) [.ref (ad (5 + 8 * a)), .int (nI v), .int (nI r), .int (nI n)] (gw ad ct V) (fun w => w = gw ad ct (cln V a v r n)) := by
  refine ct_v (by decide) rfl rfl (Nat.le_of_ble_eq_true rfl) ?_
  intro pg en sx mx blw mth cdx hx hb hr hts hown hlk hml hK
  refine g_L (L' := [_, _, _, _]) rfl ?_
  refine g_aload_n hx hb d_PS_learnMessage_0 rfl rfl ?_
  refine g_get hx hb hts (in_mw in_PS) hown hK.1 (w_P ha) rfl 9 (by decide) (hts _ (List.mem_cons_of_mem _ t_38)) rfl d_PS_learnMessage_1 ?_
  refine g_iload_n hx hb d_PS_learnMessage_4 rfl rfl ?_
  refine g_iconst hx hb d_PS_learnMessage_5 k_iconst_4 ?_
  refine n_imul hx hb d_PS_learnMessage_6 ?_
  refine g_iload_n hx hb d_PS_learnMessage_7 rfl rfl ?_
  refine n_iadd hx hb d_PS_learnMessage_8 ?_
  refine g_dup2 hx hb d_PS_learnMessage_9 rfl rfl ?_
  refine g_iald hx hb hK.1 (w_Pa (k := 1) ha (by decide) (by decide)) 0 rfl (show _ < 64 by omega) (by decide) rfl d_PS_learnMessage_10 ?_
  refine g_iconst hx hb d_PS_learnMessage_11 k_iconst_1 ?_
  refine g_iload_n hx hb d_PS_learnMessage_12 rfl rfl ?_
  refine n_ishl hx hb d_PS_learnMessage_13 (by omega) (q_p32 hn) ?_
  refine g_val (show nI (1 * 2 ^ n) = nI (2 ^ n) from congrArg nI (Nat.one_mul _)) ?_
  refine n_ior hx hb d_PS_learnMessage_14 ?_
  refine g_iast hx hb hK.1 (gw_D had) (w_Pa (k := 1) ha (by decide) (by decide)) 0 rfl (show _ < 64 by omega) (by decide) d_PS_learnMessage_15 (s_Pa (k := 1) ha (by decide) (by decide) _ _) ?_
  exact g_vret hx hb hr hlk d_PS_learnMessage_16 (rfl)
set_option maxRecDepth 100000 in
set_option maxHeartbeats 4000000 in
theorem ct_PS_knowsMessage (l : Launch) (D : va_G) (ad : Nat → Nat) (ct : Nat → ClassId) (had : adOk ad) (V : VV) (a r n : Nat) (ha : a < 4) (hv : V (5 + 8 * a) 0 * 4 + r < 64) (hn : n < 32) (hx : V (5 + 8 * a + 1) (V (5 + 8 * a) 0 * 4 + r) < 2 ^ 31) : CTi l y_PS_knowsMessage (mw y_PS_knowsMessage c_PS_knowsMessage 3 (some .boolean)) { frames := 0, cells := 0, slots := 0, locals := 0 } (gK D ct) D vcl (gA ad) [.ref (ad (5 + 8 * a)), .int (nI r), .int (nI n)] (gw ad ct V) (fun r0 w => r0 = nI (V (5 + 8 * a + 1) (V (5 + 8 * a) 0 * 4 + r) / 2 ^ n % 2) ∧ w = gw ad ct V) := by
  refine ct_i (by decide) rfl rfl (Nat.le_of_ble_eq_true rfl) ?_
  intro pg en sx mx blw mth cdx hx hb hr hts hown hlk hml hK
  refine g_L (L' := [_, _, _]) rfl ?_
  refine g_aload_n hx hb d_PS_knowsMessage_0 rfl rfl ?_
  refine g_get hx hb hts (in_mw in_PS) hown hK.1 (w_P ha) rfl 9 (by decide) (hts _ (List.mem_cons_of_mem _ t_38)) rfl d_PS_knowsMessage_1 ?_
  refine g_aload_n hx hb d_PS_knowsMessage_4 rfl rfl ?_
  refine g_get hx hb hts (in_mw in_PS) hown hK.1 (w_P ha) rfl 0 (by decide) (hts _ (List.mem_cons_of_mem _ t_25)) rfl d_PS_knowsMessage_5 ?_
  refine g_iconst hx hb d_PS_knowsMessage_8 k_iconst_4 ?_
  refine n_imul hx hb d_PS_knowsMessage_9 ?_
  refine g_iload_n hx hb d_PS_knowsMessage_10 rfl rfl ?_
  refine n_iadd hx hb d_PS_knowsMessage_11 ?_
  refine g_iald hx hb hK.1 (w_Pa (k := 1) ha (by decide) (by decide)) 0 rfl (show _ < 64 by omega) (by decide) rfl d_PS_knowsMessage_12 ?_
  refine g_iload_n hx hb d_PS_knowsMessage_13 rfl rfl ?_
  refine n_ishr hx hb d_PS_knowsMessage_14 (by omega) (by omega) ?_
  refine g_iconst hx hb d_PS_knowsMessage_15 k_iconst_1 ?_
  refine n_iand hx hb d_PS_knowsMessage_16 ?_
  refine g_val (show nI _ = nI (V (5 + 8 * a + 1) (V (5 + 8 * a) 0 * 4 + r) / 2 ^ n % 2) from congrArg nI (Nat.and_one_is_mod _)) ?_
  refine g_iconst hx hb d_PS_knowsMessage_17 k_iconst_1 ?_
  refine n_icmp_ne (tgt := 25) hx hb d_PS_knowsMessage_18 (by decide) (by omega) (by omega) (fun hc1 => ?_) (fun hc1 => ?_)
  · refine g_iconst hx hb d_PS_knowsMessage_25 k_iconst_0 ?_
    exact g_zret hx hb hr hlk (by decide +kernel) d_PS_knowsMessage_26 (⟨by congr 1; omega, rfl⟩)
  · refine g_iconst hx hb d_PS_knowsMessage_21 k_iconst_1 ?_
    refine g_goto (tgt := 26) hx hb d_PS_knowsMessage_22 (by decide) ?_
    exact g_zret hx hb hr hlk (by decide +kernel) d_PS_knowsMessage_26 (⟨by congr 1; omega, rfl⟩)
set_option maxRecDepth 100000 in
set_option maxHeartbeats 4000000 in
theorem ct_PS_learnSync (l : Launch) (D : va_G) (ad : Nat → Nat) (ct : Nat → ClassId) (had : adOk ad) (V : VV) (a r n : Nat) (ha : a < 4) (hv : r < 4) (hn : n < 31) : CTv l y_PS_learnSync (mw y_PS_learnSync c_PS_learnSync 3 none) { frames := 0, cells := 0, slots := 0, locals := 0 } (gK D ct) D vcl (gA ad) [.ref (ad (5 + 8 * a)), .int (nI r), .int (nI n)] (gw ad ct V) (fun w => w = gw ad ct (csy V a r n)) := by
  refine ct_v (by decide) rfl rfl (Nat.le_of_ble_eq_true rfl) ?_
  intro pg en sx mx blw mth cdx hx hb hr hts hown hlk hml hK
  refine g_L (L' := [_, _, _]) rfl ?_
  refine g_aload_n hx hb d_PS_learnSync_0 rfl rfl ?_
  refine g_get hx hb hts (in_mw in_PS) hown hK.1 (w_P ha) rfl 10 (by decide) (hts _ (List.mem_cons_of_mem _ t_39)) rfl d_PS_learnSync_1 ?_
  refine g_iload_n hx hb d_PS_learnSync_4 rfl rfl ?_
  refine g_dup2 hx hb d_PS_learnSync_5 rfl rfl ?_
  refine g_iald hx hb hK.1 (w_Pa (k := 2) ha (by decide) (by decide)) 0 rfl (show _ < 4 by omega) (by decide) rfl d_PS_learnSync_6 ?_
  refine g_iconst hx hb d_PS_learnSync_7 k_iconst_1 ?_
  refine g_iload_n hx hb d_PS_learnSync_8 rfl rfl ?_
  refine n_ishl hx hb d_PS_learnSync_9 (by omega) (q_p32 hn) ?_
  refine g_val (show nI (1 * 2 ^ n) = nI (2 ^ n) from congrArg nI (Nat.one_mul _)) ?_
  refine n_ior hx hb d_PS_learnSync_10 ?_
  refine g_iast hx hb hK.1 (gw_D had) (w_Pa (k := 2) ha (by decide) (by decide)) 0 rfl (show _ < 4 by omega) (by decide) d_PS_learnSync_11 (s_Pa (k := 2) ha (by decide) (by decide) _ _) ?_
  exact g_vret hx hb hr hlk d_PS_learnSync_12 (rfl)
set_option maxRecDepth 100000 in
set_option maxHeartbeats 4000000 in
theorem ct_PS_knowsSync (l : Launch) (D : va_G) (ad : Nat → Nat) (ct : Nat → ClassId) (had : adOk ad) (V : VV) (a r n : Nat) (ha : a < 4) (hv : r < 4) (hn : n < 32) (hx : V (5 + 8 * a + 2) r < 2 ^ 31) : CTi l y_PS_knowsSync (mw y_PS_knowsSync c_PS_knowsSync 3 (some .boolean)) { frames := 0, cells := 0, slots := 0, locals := 0 } (gK D ct) D vcl (gA ad) [.ref (ad (5 + 8 * a)), .int (nI r), .int (nI n)] (gw ad ct V) (fun r0 w => r0 = nI (V (5 + 8 * a + 2) r / 2 ^ n % 2) ∧ w = gw ad ct V) := by
  refine ct_i (by decide) rfl rfl (Nat.le_of_ble_eq_true rfl) ?_
  intro pg en sx mx blw mth cdx hx hb hr hts hown hlk hml hK
  refine g_L (L' := [_, _, _]) rfl ?_
  refine g_aload_n hx hb d_PS_knowsSync_0 rfl rfl ?_
  refine g_get hx hb hts (in_mw in_PS) hown hK.1 (w_P ha) rfl 10 (by decide) (hts _ (List.mem_cons_of_mem _ t_39)) rfl d_PS_knowsSync_1 ?_
  refine g_iload_n hx hb d_PS_knowsSync_4 rfl rfl ?_
  refine g_iald hx hb hK.1 (w_Pa (k := 2) ha (by decide) (by decide)) 0 rfl (show _ < 4 by omega) (by decide) rfl d_PS_knowsSync_5 ?_
  refine g_iload_n hx hb d_PS_knowsSync_6 rfl rfl ?_
  refine n_ishr hx hb d_PS_knowsSync_7 (by omega) (by omega) ?_
  refine g_iconst hx hb d_PS_knowsSync_8 k_iconst_1 ?_
  refine n_iand hx hb d_PS_knowsSync_9 ?_
  refine g_val (show nI _ = nI (V (5 + 8 * a + 2) r / 2 ^ n % 2) from congrArg nI (Nat.and_one_is_mod _)) ?_
  refine g_iconst hx hb d_PS_knowsSync_10 k_iconst_1 ?_
  refine n_icmp_ne (tgt := 18) hx hb d_PS_knowsSync_11 (by decide) (by omega) (by omega) (fun hc1 => ?_) (fun hc1 => ?_)
  · refine g_iconst hx hb d_PS_knowsSync_18 k_iconst_0 ?_
    exact g_zret hx hb hr hlk (by decide +kernel) d_PS_knowsSync_19 (⟨by congr 1; omega, rfl⟩)
  · refine g_iconst hx hb d_PS_knowsSync_14 k_iconst_1 ?_
    refine g_goto (tgt := 19) hx hb d_PS_knowsSync_15 (by decide) ?_
    exact g_zret hx hb hr hlk (by decide +kernel) d_PS_knowsSync_19 (⟨by congr 1; omega, rfl⟩)
set_option maxRecDepth 100000 in
set_option maxHeartbeats 4000000 in
theorem ct_PS_setEvent (l : Launch) (D : va_G) (ad : Nat → Nat) (ct : Nat → ClassId) (had : adOk ad) (V : VV) (a x y z u : Nat) (ha : a < 4) : CTv l y_PS_setEvent (mw y_PS_setEvent c_PS_setEvent 5 none) { frames := 0, cells := 0, slots := 0, locals := 0 } (gK D ct) D vcl (gA ad) [.ref (ad (5 + 8 * a)), .int (nI x), .int (nI y), .int (nI z), .int (nI u)] (gw ad ct V) (fun w => w = gw ad ct (cev V a x y z u)) := by
  refine ct_v (by decide) rfl rfl (Nat.le_of_ble_eq_true rfl) ?_
  intro pg en sx mx blw mth cdx hx hb hr hts hown hlk hml hK
  refine g_L (L' := [_, _, _, _, _]) rfl ?_
  refine g_aload_n hx hb d_PS_setEvent_0 rfl rfl ?_
  refine g_get hx hb hts (in_mw in_PS) hown hK.1 (w_P ha) rfl 15 (by decide) (hts _ (List.mem_cons_of_mem _ t_48)) rfl d_PS_setEvent_1 ?_
  refine g_iconst hx hb d_PS_setEvent_4 k_iconst_0 ?_
  refine g_iload_n hx hb d_PS_setEvent_5 rfl rfl ?_
  refine g_iast hx hb hK.1 (gw_D had) (w_Pa (k := 7) ha (by decide) (by decide)) 0 rfl (show _ < 4 by omega) (by decide) d_PS_setEvent_6 (s_Pa (k := 7) ha (by decide) (by decide) _ _) ?_
  refine g_aload_n hx hb d_PS_setEvent_7 rfl rfl ?_
  refine g_get hx hb hts (in_mw in_PS) hown hK.1 (w_P ha) rfl 15 (by decide) (hts _ (List.mem_cons_of_mem _ t_48)) rfl d_PS_setEvent_8 ?_
  refine g_iconst hx hb d_PS_setEvent_11 k_iconst_1 ?_
  refine g_iload_n hx hb d_PS_setEvent_12 rfl rfl ?_
  refine g_iast hx hb hK.1 (gw_D had) (w_Pa (k := 7) ha (by decide) (by decide)) 0 rfl (show _ < 4 by omega) (by decide) d_PS_setEvent_13 (s_Pa (k := 7) ha (by decide) (by decide) _ _) ?_
  refine g_aload_n hx hb d_PS_setEvent_14 rfl rfl ?_
  refine g_get hx hb hts (in_mw in_PS) hown hK.1 (w_P ha) rfl 15 (by decide) (hts _ (List.mem_cons_of_mem _ t_48)) rfl d_PS_setEvent_15 ?_
  refine g_iconst hx hb d_PS_setEvent_18 k_iconst_2 ?_
  refine g_iload_n hx hb d_PS_setEvent_19 rfl rfl ?_
  refine g_iast hx hb hK.1 (gw_D had) (w_Pa (k := 7) ha (by decide) (by decide)) 0 rfl (show _ < 4 by omega) (by decide) d_PS_setEvent_20 (s_Pa (k := 7) ha (by decide) (by decide) _ _) ?_
  refine g_aload_n hx hb d_PS_setEvent_21 rfl rfl ?_
  refine g_get hx hb hts (in_mw in_PS) hown hK.1 (w_P ha) rfl 15 (by decide) (hts _ (List.mem_cons_of_mem _ t_48)) rfl d_PS_setEvent_22 ?_
  refine g_iconst hx hb d_PS_setEvent_25 k_iconst_3 ?_
  refine g_iload hx hb d_PS_setEvent_26 rfl ?_
  refine g_iast hx hb hK.1 (gw_D had) (w_Pa (k := 7) ha (by decide) (by decide)) 0 rfl (show _ < 4 by omega) (by decide) d_PS_setEvent_28 (s_Pa (k := 7) ha (by decide) (by decide) _ _) ?_
  exact g_vret hx hb hr hlk d_PS_setEvent_29 (rfl)
set_option maxRecDepth 100000 in
set_option maxHeartbeats 4000000 in
theorem ct_PS_enterPending (l : Launch) (D : va_G) (ad : Nat → Nat) (ct : Nat → ClassId) (had : adOk ad) (V : VV) (a : Nat) (ha : a < 4) : CTv l y_PS_enterPending (mw y_PS_enterPending c_PS_enterPending 1 none) { frames := 0, cells := 0, slots := 0, locals := 0 } (gK D ct) D vcl (gA ad) [.ref (ad (5 + 8 * a))] (gw ad ct V) (fun w => w = gw ad ct (cen V a)) := by
  refine ct_v (by decide) rfl rfl (Nat.le_of_ble_eq_true rfl) ?_
  intro pg en sx mx blw mth cdx hx hb hr hts hown hlk hml hK
  refine g_L (L' := [_]) rfl ?_
  refine g_aload_n hx hb d_PS_enterPending_0 rfl rfl ?_
  refine g_aload_n hx hb d_PS_enterPending_1 rfl rfl ?_
  refine g_get hx hb hts (in_mw in_PS) hown hK.1 (w_P ha) rfl 5 (by decide) (hts _ (List.mem_cons_of_mem _ t_32)) rfl d_PS_enterPending_2 ?_
  refine g_put (ty := .int) hx hb hts (in_mw in_PS) ty_PS tyo_PS nm_PS hown hK.1 (gw_D had) (w_P ha) rfl 0 (by decide) (hts _ (List.mem_cons_of_mem _ t_25)) rfl (by decide +kernel) rfl rfl (Nat.le_of_ble_eq_true rfl) d_PS_enterPending_5 (s_P ha 0 _ (by decide)) ?_
  refine g_aload_n hx hb d_PS_enterPending_8 rfl rfl ?_
  refine g_iconst hx hb d_PS_enterPending_9 k_iconst_0 ?_
  refine g_put (ty := .int) hx hb hts (in_mw in_PS) ty_PS tyo_PS nm_PS hown hK.1 (gw_D had) (w_P ha) rfl 5 (by decide) (hts _ (List.mem_cons_of_mem _ t_32)) rfl (by decide +kernel) rfl rfl (Nat.le_of_ble_eq_true rfl) d_PS_enterPending_10 (s_P ha 5 _ (by decide)) ?_
  refine g_aload_n hx hb d_PS_enterPending_13 rfl rfl ?_
  refine g_iconst hx hb d_PS_enterPending_14 k_iconst_0 ?_
  refine g_put (ty := .boolean) hx hb hts (in_mw in_PS) ty_PS tyo_PS nm_PS hown hK.1 (gw_D had) (w_P ha) rfl 4 (by decide) (hts _ (List.mem_cons_of_mem _ t_30)) rfl (by decide +kernel) (by decide +kernel) rfl (Nat.le_of_ble_eq_true rfl) d_PS_enterPending_15 (s_P ha 4 _ (by decide)) ?_
  refine g_aload_n hx hb d_PS_enterPending_18 rfl rfl ?_
  refine g_iconst hx hb d_PS_enterPending_19 k_iconst_0 ?_
  refine g_put (ty := .int) hx hb hts (in_mw in_PS) ty_PS tyo_PS nm_PS hown hK.1 (gw_D had) (w_P ha) rfl 7 (by decide) (hts _ (List.mem_cons_of_mem _ t_35)) rfl (by decide +kernel) rfl rfl (Nat.le_of_ble_eq_true rfl) d_PS_enterPending_20 (s_P ha 7 _ (by decide)) ?_
  refine g_aload_n hx hb d_PS_enterPending_23 rfl rfl ?_
  refine g_iconst hx hb d_PS_enterPending_24 k_iconst_0 ?_
  refine g_put (ty := .int) hx hb hts (in_mw in_PS) ty_PS tyo_PS nm_PS hown hK.1 (gw_D had) (w_P ha) rfl 8 (by decide) (hts _ (List.mem_cons_of_mem _ t_37)) rfl (by decide +kernel) rfl rfl (Nat.le_of_ble_eq_true rfl) d_PS_enterPending_25 (s_P ha 8 _ (by decide)) ?_
  exact g_vret hx hb hr hlk d_PS_enterPending_28 (rfl)
end
section
/-- a truth as a number -/
noncomputable def bC (P : Prop) : Nat := @ite Nat P (Classical.propDecidable P) 1 0
theorem bC_t {P : Prop} (h : P) : bC P = 1 := by unfold bC; exact if_pos h
theorem bC_f {P : Prop} (h : ¬ P) : bC P = 0 := by unfold bC; exact if_neg h
theorem bC_0 {P : Prop} : bC P = 0 ↔ ¬ P := ⟨fun h hp => by rw [bC_t hp] at h; exact absurd h (by decide), bC_f⟩
theorem bC_n0 {P : Prop} : ¬ bC P = 0 ↔ P := ⟨fun h => Classical.byContradiction (fun hp => h (bC_f hp)), fun hp h => by rw [bC_t hp] at h; exact absurd h (by decide)⟩
theorem bC_lt {P : Prop} : bC P < 2 ^ 31 := by
  by_cases h : P
  · rw [bC_t h]; decide
  · rw [bC_f h]; decide
/-- fewer known locals -/
def lsub : List (Option Value) → List (Option Value) → Prop
  | [], [] => True
  | a :: t, b :: u => (a = none ∨ a = b) ∧ lsub t u
  | _, _ => False
theorem lsub_at : ∀ (L' L : List (Option Value)), lsub L' L → L'.length = L.length ∧ ∀ (i : Nat) (v : Value), L'[i]? = some (some v) → L[i]? = some (some v)
  | [], [], _ => ⟨rfl, fun _ _ h => h⟩
  | a :: t, b :: u, h => by
    obtain ⟨h1, h2⟩ := h
    obtain ⟨i1, i2⟩ := lsub_at t u h2
    refine ⟨by simp [i1], fun i v hi => ?_⟩
    cases i with
    | zero =>
      simp at hi ⊢
      rcases h1 with z | z
      · rw [z] at hi; cases hi
      · rw [← z]; exact hi
    | succ i =>
      simp at hi ⊢
      exact i2 i v hi
  | [], _ :: _, h => by cases h
  | _ :: _, [], h => by cases h
theorem g_sub {p : Program} {l : Launch} {e : Env} {R : Room} {s : State} {m : MethodId} {args : Array Value} {below : List Frame} {meth : Method} {c : Code} {D : va_G} {cl : List vw_C} {A : Nat → Prop} {k n : Nat} {Q : State → Prop} {w : va_W} {L L' : List (Option Value)} {pc : Nat} {st : List Value} (h : lsub L' L) (kk : G p l e R s m args below meth c D cl A k n Q w L' pc st) : G p l e R s m args below meth c D cl A k n Q w L pc st :=
  fun H locs ls hP hS hl => kk H locs ls hP hS ⟨by rw [hl.1, (lsub_at L' L h).1], hl.2.1, fun i v hi => hl.2.2 i v ((lsub_at L' L h).2 i v hi)⟩
theorem an_16 : ∀ a, a < 16 → ∀ b, b < 16 → ((nI a &&& (nI b ^^^ (-1))) = 0 ↔ a &&& b = a) := by decide +kernel
theorem cput_end {X : VV} {i x j : Nat} (h : X (37 + 2 * j) 2 ≤ 75) (h2 : i < 16) (h3 : j < 16) : cput X i x (37 + 2 * j) 2 ≤ 75 := by
  unfold cput
  split
  · by_cases e : i = j
    · subst e
      rw [pt_eq rfl rfl]; omega
    · rw [pt_ne (by omega), pt_ne (by omega)]; exact h
  · exact h
theorem cpo_end {X : VV} {p set x j : Nat} (hp : p < 4) (hj : j < 16) (h : X (37 + 2 * j) 2 ≤ 75) : ∀ q, q ≤ 4 → cpo X p set x q (37 + 2 * j) 2 ≤ 75
  | 0, _ => h
  | q + 1, hq => by
    rw [cpo]
    split
    · exact cput_end (cpo_end hp hj h q (by omega)) (by omega) hj
    · exact cpo_end hp hj h q (by omega)
def bc_1 (i : Int32) : Int32 := i - ((i.toUInt32 >>> ((nI 1).toUInt32 &&& Int32.toUInt32 31)).toInt32 &&& 1431655765)
def bc_2 (i : Int32) : Int32 := (i &&& 858993459) + ((i.toUInt32 >>> ((nI 2).toUInt32 &&& Int32.toUInt32 31)).toInt32 &&& 858993459)
def bc_3 (i : Int32) : Int32 := (i + (i.toUInt32 >>> ((nI 4).toUInt32 &&& Int32.toUInt32 31)).toInt32) &&& 252645135
def bc_4 (i : Int32) : Int32 := i + (i.toUInt32 >>> ((nI 8).toUInt32 &&& Int32.toUInt32 31)).toInt32
def bc_5 (i : Int32) : Int32 := i + (i.toUInt32 >>> ((nI 16).toUInt32 &&& Int32.toUInt32 31)).toInt32
def popc (x : Nat) : Nat := x % 2 + x / 2 % 2 + x / 4 % 2 + x / 8 % 2 + x / 16 % 2
theorem bc_fin : ∀ x, x < 32 → (bc_5 (bc_4 (bc_3 (bc_2 (bc_1 (nI x)))))) &&& nI 63 = nI (popc x) := by decide +kernel
theorem CB.f {X : VV} (h : CB X) : X 0 4 ≤ 15 := h.1
theorem CB.s {X : VV} (h : CB X) : ∀ v, v < 16 → X 3 v < 16 := h.2.1
theorem CB.t {X : VV} (h : CB X) : ∀ i, i < 64 → X 4 i ≤ 15 := h.2.2.1
theorem CB.p {X : VV} (h : CB X) : ∀ p, p < 4 → X (5 + 8 * p) 0 ≤ 15 ∧ X (5 + 8 * p) 1 ≤ 15 ∧ X (5 + 8 * p) 2 < 16 ∧ X (5 + 8 * p) 3 ≤ 1 ∧ X (5 + 8 * p) 4 ≤ 1 ∧ X (5 + 8 * p) 5 ≤ 15 ∧ X (5 + 8 * p) 6 ≤ 15 ∧ X (5 + 8 * p) 7 ≤ 4 ∧ pkd (X (5 + 8 * p) 8) := h.2.2.2.1
theorem CB.kn {X : VV} (h : CB X) : ∀ p i, p < 4 → i < 64 → X (5 + 8 * p + 1) i < 32 := h.2.2.2.2.1
theorem CB.kc {X : VV} (h : CB X) : ∀ p i, p < 4 → i < 4 → X (5 + 8 * p + 2) i < 65536 := h.2.2.2.2.2.1
theorem CB.vc {X : VV} (h : CB X) : ∀ p i, p < 4 → i < 64 → pkd (X (5 + 8 * p + 4) i) := h.2.2.2.2.2.2.1
theorem CB.cv {X : VV} (h : CB X) : ∀ p i, p < 4 → i < 16 → X (5 + 8 * p + 5) i ≤ 15 := h.2.2.2.2.2.2.2.1
theorem CB.cu {X : VV} (h : CB X) : ∀ p i, p < 4 → i < 16 → pkd (X (5 + 8 * p + 6) i) := h.2.2.2.2.2.2.2.2.1
theorem CB.ln {X : VV} (h : CB X) : ∀ i, i < 16 → X (37 + 2 * i) 1 ≤ X (37 + 2 * i) 2 ∧ X (37 + 2 * i) 2 ≤ 75 ∧ ∀ k, X (37 + 2 * i) 1 ≤ k → k < X (37 + 2 * i) 2 → X (37 + 2 * i + 1) k < 80 := h.2.2.2.2.2.2.2.2.2
theorem cps_lt {X : VV} (h : CB X) {p : Nat} (hp : p < 4) : cps X p < 16 := by
  unfold cps
  split
  · show 2 ^ p < 2 ^ 4
    exact Nat.pow_lt_pow_right (by decide) hp
  · exact h.s _ (by have := (h.p p hp).1; omega)
theorem cli_pkd {X : VV} (h : CB X) {v cs : Nat} (hv : v < 16) : ∀ q, q ≤ 4 → pkd (cli X v cs q)
  | 0, _ => pkd_0
  | q + 1, hq => by
    rw [cli]
    split
    · exact pkd_mx (cli_pkd h hv q (by omega)) (h.cu q _ (by omega) (by have := h.t (v * 4 + q) (by omega); omega))
    · exact cli_pkd h hv q (by omega)
end
section
theorem q_max {a b : Nat} (ha : a < 2 ^ 31) (hb : b < 2 ^ 31) : (if nI a < nI b then nI b else nI a) = nI (if a < b then b else a) := by
  by_cases h : a < b
  · rw [if_pos h, if_pos (nI_lt h hb)]
  · rw [if_neg h, if_neg (nI_nlt (by omega) ha)]
theorem mx_le {a b : Nat} (h1 : pkd a) (h2 : pkd b) {q : Nat} : ∀ r, r < 4 → (if r < q then (if cnt a r < cnt b r then cnt b r else cnt a r) else 0) ≤ 4 := fun r hr => by
  have x1 := h1.2 r hr
  have x2 := h2.2 r hr
  split
  · split <;> omega
  · omega
theorem mx_pkd {a b : Nat} (h1 : pkd a) (h2 : pkd b) {q : Nat} : pkd (pk4 (fun r => if r < q then (if cnt a r < cnt b r then cnt b r else cnt a r) else 0)) := pkd_pk (mx_le h1 h2)
theorem mx_step {a b : Nat} (h1 : pkd a) (h2 : pkd b) {q : Nat} (hq : q < 4) : wc (pk4 (fun j => if j < q then (if cnt a j < cnt b j then cnt b j else cnt a j) else 0)) q (if cnt a q < cnt b q then cnt b q else cnt a q) = pk4 (fun j => if j < q + 1 then (if cnt a j < cnt b j then cnt b j else cnt a j) else 0) := by
  unfold wc
  refine pk_congr (fun r hr => ?_)
  rw [cnt_pk (d := fun j => if j < q then (if cnt a j < cnt b j then cnt b j else cnt a j) else 0) (fun j hj => Nat.le_trans (mx_le h1 h2 j hj) (by decide)) r hr]
  by_cases e : r = q
  · subst e
    rw [if_pos rfl, if_pos (show r < r + 1 by omega)]
  · rw [if_neg e]
    by_cases z : r < q
    · rw [if_pos z, if_pos (show r < q + 1 by omega)]
    · rw [if_neg z, if_neg (show ¬ r < q + 1 by omega)]
theorem mx_end {a b q : Nat} (hq : 4 ≤ q) : pk4 (fun j => if j < q then (if cnt a j < cnt b j then cnt b j else cnt a j) else 0) = mx4 a b := by
  unfold mx4
  refine pk_congr (fun r hr => ?_)
  rw [if_pos (by omega)]
set_option maxRecDepth 100000 in
set_option maxHeartbeats 4000000 in
theorem ct_IN_bitCount (l : Launch) (D : va_G) (ad : Nat → Nat) (ct : Nat → ClassId) (had : adOk ad) (V : VV) (x : Nat) (h : x < 32) : CTi l y_IN_bitCount (mw y_IN_bitCount c_IN_bitCount 1 (some .int)) { frames := 0, cells := 0, slots := 0, locals := 0 } (gK D ct) D vcl (gA ad) [.int (nI x)] (gw ad ct V) (fun r w => r = nI (popc x) ∧ w = gw ad ct V) := by
  refine ct_i (by decide) rfl rfl (Nat.le_of_ble_eq_true rfl) ?_
  intro pg en sx mx blw mth cdx hx hb hr hts hown hlk hml hK
  refine g_L (L' := [_]) rfl ?_
  refine g_iload_n hx hb d_IN_bitCount_0 rfl rfl ?_
  refine g_iload_n hx hb d_IN_bitCount_1 rfl rfl ?_
  refine g_iconst hx hb d_IN_bitCount_2 k_iconst_1 ?_
  refine g_iushr hx hb d_IN_bitCount_3 rfl ?_
  refine g_ldcw hx hb d_IN_bitCount_4 hown (hts _ (List.mem_cons_of_mem _ t_298)) ?_
  refine g_iand hx hb d_IN_bitCount_7 ?_
  refine g_isub hx hb d_IN_bitCount_8 ?_
  refine g_val (show _ = bc_1 (nI x) from rfl) ?_
  refine g_istore_n (L' := [_]) hx hb d_IN_bitCount_9 rfl (Nat.le_of_ble_eq_true rfl) rfl ?_
  refine g_iload_n hx hb d_IN_bitCount_10 rfl rfl ?_
  refine g_ldcw hx hb d_IN_bitCount_11 hown (hts _ (List.mem_cons_of_mem _ t_299)) ?_
  refine g_iand hx hb d_IN_bitCount_14 ?_
  refine g_iload_n hx hb d_IN_bitCount_15 rfl rfl ?_
  refine g_iconst hx hb d_IN_bitCount_16 k_iconst_2 ?_
  refine g_iushr hx hb d_IN_bitCount_17 rfl ?_
  refine g_ldcw hx hb d_IN_bitCount_18 hown (hts _ (List.mem_cons_of_mem _ t_299)) ?_
  refine g_iand hx hb d_IN_bitCount_21 ?_
  refine g_iadd hx hb d_IN_bitCount_22 ?_
  refine g_val (show _ = bc_2 (bc_1 (nI x)) from rfl) ?_
  refine g_istore_n (L' := [_]) hx hb d_IN_bitCount_23 rfl (Nat.le_of_ble_eq_true rfl) rfl ?_
  refine g_iload_n hx hb d_IN_bitCount_24 rfl rfl ?_
  refine g_iload_n hx hb d_IN_bitCount_25 rfl rfl ?_
  refine g_iconst hx hb d_IN_bitCount_26 k_iconst_4 ?_
  refine g_iushr hx hb d_IN_bitCount_27 rfl ?_
  refine g_iadd hx hb d_IN_bitCount_28 ?_
  refine g_ldcw hx hb d_IN_bitCount_29 hown (hts _ (List.mem_cons_of_mem _ t_300)) ?_
  refine g_iand hx hb d_IN_bitCount_32 ?_
  refine g_val (show _ = bc_3 (bc_2 (bc_1 (nI x))) from rfl) ?_
  refine g_istore_n (L' := [_]) hx hb d_IN_bitCount_33 rfl (Nat.le_of_ble_eq_true rfl) rfl ?_
  refine g_iload_n hx hb d_IN_bitCount_34 rfl rfl ?_
  refine g_iload_n hx hb d_IN_bitCount_35 rfl rfl ?_
  refine g_bipush hx hb d_IN_bitCount_36 k_bipush_8 ?_
  refine g_iushr hx hb d_IN_bitCount_38 rfl ?_
  refine g_iadd hx hb d_IN_bitCount_39 ?_
  refine g_val (show _ = bc_4 (bc_3 (bc_2 (bc_1 (nI x)))) from rfl) ?_
  refine g_istore_n (L' := [_]) hx hb d_IN_bitCount_40 rfl (Nat.le_of_ble_eq_true rfl) rfl ?_
  refine g_iload_n hx hb d_IN_bitCount_41 rfl rfl ?_
  refine g_iload_n hx hb d_IN_bitCount_42 rfl rfl ?_
  refine g_bipush hx hb d_IN_bitCount_43 k_bipush_16 ?_
  refine g_iushr hx hb d_IN_bitCount_45 rfl ?_
  refine g_iadd hx hb d_IN_bitCount_46 ?_
  refine g_val (show _ = bc_5 (bc_4 (bc_3 (bc_2 (bc_1 (nI x))))) from rfl) ?_
  refine g_istore_n (L' := [_]) hx hb d_IN_bitCount_47 rfl (Nat.le_of_ble_eq_true rfl) rfl ?_
  refine g_iload_n hx hb d_IN_bitCount_48 rfl rfl ?_
  refine g_bipush hx hb d_IN_bitCount_49 k_bipush_63 ?_
  refine g_iand hx hb d_IN_bitCount_51 ?_
  exact g_iret hx hb hr hlk d_IN_bitCount_52 (⟨bc_fin x h, rfl⟩)
set_option maxRecDepth 100000 in
set_option maxHeartbeats 4000000 in
theorem ct_PS_messagesKnownOf (l : Launch) (D : va_G) (ad : Nat → Nat) (ct : Nat → ClassId) (had : adOk ad) (V : VV) (a r : Nat) (ha : a < 4) (hv : V (5 + 8 * a) 0 * 4 + r < 64) (hx : V (5 + 8 * a + 1) (V (5 + 8 * a) 0 * 4 + r) < 32) : CTi l y_PS_messagesKnownOf (mw y_PS_messagesKnownOf c_PS_messagesKnownOf 2 (some .int)) { frames := 1, cells := 0, slots := 0, locals := 20 } (gK D ct) D vcl (gA ad) [.ref (ad (5 + 8 * a)), .int (nI r)] (gw ad ct V) (fun r0 w => r0 = nI (popc (V (5 + 8 * a + 1) (V (5 + 8 * a) 0 * 4 + r))) ∧ w = gw ad ct V) := by
  refine ct_i (by decide) rfl rfl (Nat.le_of_ble_eq_true rfl) ?_
  intro pg en sx mx blw mth cdx hx hb hr hts hown hlk hml hK
  refine g_L (L' := [_, _]) rfl ?_
  refine g_aload_n hx hb d_PS_messagesKnownOf_0 rfl rfl ?_
  refine g_get hx hb hts (in_mw in_PS) hown hK.1 (w_P ha) rfl 9 (by decide) (hts _ (List.mem_cons_of_mem _ t_38)) rfl d_PS_messagesKnownOf_1 ?_
  refine g_aload_n hx hb d_PS_messagesKnownOf_4 rfl rfl ?_
  refine g_get hx hb hts (in_mw in_PS) hown hK.1 (w_P ha) rfl 0 (by decide) (hts _ (List.mem_cons_of_mem _ t_25)) rfl d_PS_messagesKnownOf_5 ?_
  refine g_iconst hx hb d_PS_messagesKnownOf_8 k_iconst_4 ?_
  refine n_imul hx hb d_PS_messagesKnownOf_9 ?_
  refine g_iload_n hx hb d_PS_messagesKnownOf_10 rfl rfl ?_
  refine n_iadd hx hb d_PS_messagesKnownOf_11 ?_
  refine g_iald hx hb hK.1 (w_Pa (k := 1) ha (by decide) (by decide)) 0 rfl (show _ < 64 by omega) (by decide) rfl d_PS_messagesKnownOf_12 ?_
  refine g_callSi (nn := 1) ⟨hx, hb, hml.trans rfl, hown, hts⟩ (ct_IN_bitCount l D ad ct had _ _ (by omega)) (mk_S hts t_295 t_296 t_6 t_297 rfl rfl (by decide +kernel) ⟨Nat.le_of_ble_eq_true rfl, Nat.le_of_ble_eq_true rfl⟩) (fun _ h => h) (gK_ok D ct) hK (Nat.le_of_ble_eq_true rfl) ⟨Nat.zero_le _, Nat.zero_le _⟩ rfl rfl d_PS_messagesKnownOf_13 ?_
  rintro _ _ ⟨rfl, rfl⟩
  exact g_iret hx hb hr hlk d_PS_messagesKnownOf_16 (⟨rfl, rfl⟩)
set_option maxRecDepth 100000 in
set_option maxHeartbeats 4000000 in
theorem ct_GV_greatestOfEach (l : Launch) (D : va_G) (ad : Nat → Nat) (ct : Nat → ClassId) (had : adOk ad) (V : VV) (a b : Nat) (h1 : pkd a) (h2 : pkd b) : CTi l y_GV_greatestOfEach (mw y_GV_greatestOfEach c_GV_greatestOfEach 4 (some .int)) { frames := 1, cells := 0, slots := 0, locals := 32 } (gK D ct) D vcl (gA ad) [.int (nI a), .int (nI b)] (gw ad ct V) (fun r w => r = nI (mx4 a b) ∧ w = gw ad ct V) := by
  refine ct_i (by decide) rfl rfl (Nat.le_of_ble_eq_true rfl) ?_
  intro pg en sx mx blw mth cdx hx hb hr hts hown hlk hml hK
  refine g_L (L' := [_, _, _, _]) rfl ?_
  have la := pkd_lt h1
  have lb := pkd_lt h2
  refine g_iconst hx hb d_GV_greatestOfEach_0 k_iconst_0 ?_
  refine g_istore_n (L' := [_, _, _, _]) hx hb d_GV_greatestOfEach_1 rfl (Nat.le_of_ble_eq_true rfl) rfl ?_
  refine g_iconst hx hb d_GV_greatestOfEach_2 k_iconst_0 ?_
  refine g_istore_n (L' := [_, _, _, _]) hx hb d_GV_greatestOfEach_3 rfl (Nat.le_of_ble_eq_true rfl) rfl ?_
  refine g_loop 4 (fun q => gw ad ct V) (fun q => [some (.int (nI a)), some (.int (nI b)), some (.int (nI (pk4 (fun j => if j < q then (if cnt a j < cnt b j then cnt b j else cnt a j) else 0)))), some (.int (nI q))]) (fun q => True) 0 (by omega) trivial rfl rfl ?_
  intro q hq0_q hqE_q hI_q ih_q
  try dsimp only
  refine g_iload_n hx hb d_GV_greatestOfEach_4 rfl rfl ?_
  refine g_iconst hx hb d_GV_greatestOfEach_5 k_iconst_4 ?_
  refine n_icmp_ge (tgt := 34) hx hb d_GV_greatestOfEach_6 (by decide) (by omega) (by omega) (fun hc1 => ?_) (fun hc1 => ?_)
  · refine g_iload_n hx hb d_GV_greatestOfEach_34 rfl rfl ?_
    exact g_iret hx hb hr hlk d_GV_greatestOfEach_35 (⟨congrArg nI (mx_end (by omega)), rfl⟩)
  · refine g_iload_n hx hb d_GV_greatestOfEach_9 rfl rfl ?_
    refine g_iload_n hx hb d_GV_greatestOfEach_10 rfl rfl ?_
    refine g_iload_n hx hb d_GV_greatestOfEach_11 rfl rfl ?_
    refine g_iload_n hx hb d_GV_greatestOfEach_12 rfl rfl ?_
    refine g_callSi (nn := 2) ⟨hx, hb, hml.trans rfl, hown, hts⟩ (ct_GV_countOf l D ad ct had _ _ _ (by omega) (by omega)) (mk_S hts t_201 t_202 t_1 t_203 rfl rfl (by decide +kernel) ⟨Nat.le_of_ble_eq_true rfl, Nat.le_of_ble_eq_true rfl⟩) (fun _ h => h) (gK_ok D ct) hK (Nat.le_of_ble_eq_true rfl) ⟨Nat.zero_le _, Nat.zero_le _⟩ rfl rfl d_GV_greatestOfEach_13 ?_
    rintro _ _ ⟨rfl, rfl⟩
    refine g_iload_n hx hb d_GV_greatestOfEach_16 rfl rfl ?_
    refine g_iload_n hx hb d_GV_greatestOfEach_17 rfl rfl ?_
    refine g_callSi (nn := 2) ⟨hx, hb, hml.trans rfl, hown, hts⟩ (ct_GV_countOf l D ad ct had _ _ _ (by omega) (by omega)) (mk_S hts t_201 t_202 t_1 t_203 rfl rfl (by decide +kernel) ⟨Nat.le_of_ble_eq_true rfl, Nat.le_of_ble_eq_true rfl⟩) (fun _ h => h) (gK_ok D ct) hK (Nat.le_of_ble_eq_true rfl) ⟨Nat.zero_le _, Nat.zero_le _⟩ rfl rfl d_GV_greatestOfEach_18 ?_
    rintro _ _ ⟨rfl, rfl⟩
    have ca := h1.2 q (by omega)
    have cb := h2.2 q (by omega)
    refine g_mmax hx hb (hml.trans rfl) hown (hts _ (List.mem_cons_of_mem _ t_244)) (hts _ (List.mem_cons_of_mem _ t_245)) (hts _ (List.mem_cons_of_mem _ t_5)) (hts _ (List.mem_cons_of_mem _ t_246)) (Nat.le_of_ble_eq_true rfl) (Nat.le_of_ble_eq_true rfl) ⟨Nat.zero_le _, Nat.zero_le _⟩ d_GV_greatestOfEach_21 ?_
    refine g_val (show _ = nI (if cnt a q < cnt b q then cnt b q else cnt a q) from q_max (by omega) (by omega)) ?_
    refine g_callSi (nn := 3) ⟨hx, hb, hml.trans rfl, hown, hts⟩ (ct_GV_withCount l D ad ct had _ _ _ _ (mx_pkd h1 h2) (by omega) (by split <;> omega)) (mk_S hts t_125 t_126 t_1 t_127 rfl rfl (by decide +kernel) ⟨Nat.le_of_ble_eq_true rfl, Nat.le_of_ble_eq_true rfl⟩) (fun _ h => h) (gK_ok D ct) hK (Nat.le_of_ble_eq_true rfl) ⟨Nat.zero_le _, Nat.zero_le _⟩ rfl rfl d_GV_greatestOfEach_24 ?_
    rintro _ _ ⟨rfl, rfl⟩
    refine g_val (show nI _ = nI (pk4 (fun j => if j < q + 1 then (if cnt a j < cnt b j then cnt b j else cnt a j) else 0)) from congrArg nI (mx_step h1 h2 (by omega))) ?_
    refine g_istore_n (L' := [_, _, _, _]) hx hb d_GV_greatestOfEach_27 rfl (Nat.le_of_ble_eq_true rfl) rfl ?_
    refine n_iinc (L' := [_, _, _, _]) hx hb d_GV_greatestOfEach_28 rfl rfl ?_
    refine g_goto (tgt := 4) hx hb d_GV_greatestOfEach_31 (by decide) ?_
    exact ih_q (by omega) trivial
set_option maxRecDepth 100000 in
set_option maxHeartbeats 4000000 in
theorem ct_GV_presentSet (l : Launch) (D : va_G) (ad : Nat → Nat) (ct : Nat → ClassId) (had : adOk ad) (V : VV) (p : Nat) (hp : p < 4) (hv : V (5 + 8 * p) 0 ≤ 15) : CTi l y_GV_presentSet (mw y_GV_presentSet c_GV_presentSet 3 (some .int)) { frames := 0, cells := 0, slots := 0, locals := 0 } (gK D ct) D vcl (gA ad) [.ref (ad 0), .int (nI p)] (gw ad ct V) (fun r w => r = nI (cps V p) ∧ w = gw ad ct V) := by
  refine ct_i (by decide) rfl rfl (Nat.le_of_ble_eq_true rfl) ?_
  intro pg en sx mx blw mth cdx hx hb hr hts hown hlk hml hK
  refine g_L (L' := [_, _, _]) rfl ?_
  refine g_aload_n hx hb d_GV_presentSet_0 rfl rfl ?_
  refine g_get hx hb hts (in_mw in_GV) hown hK.1 w_0 rfl 0 (by decide) (hts _ (List.mem_cons_of_mem _ t_99)) rfl d_GV_presentSet_1 ?_
  refine g_iload_n hx hb d_GV_presentSet_4 rfl rfl ?_
  refine g_aald hx hb hK.1 w_1 2 rfl hp (by decide) (fP hp) d_GV_presentSet_5 ?_
  refine g_getN hx hb hts (in_mw in_PS) hown hK.1 (w_P hp) rfl 0 (by decide) (nst_use hK nw_24 _) rfl d_GV_presentSet_6 ?_
  refine g_istore_n (L' := [_, _, _]) hx hb d_GV_presentSet_9 rfl (Nat.le_of_ble_eq_true rfl) rfl ?_
  refine g_iload_n hx hb d_GV_presentSet_10 rfl rfl ?_
  refine n_if_ne (tgt := 20) hx hb d_GV_presentSet_11 (by decide) (by omega) (fun hc1 => ?_) (fun hc1 => ?_)
  · refine g_aload_n hx hb d_GV_presentSet_20 rfl rfl ?_
    refine g_get hx hb hts (in_mw in_GV) hown hK.1 w_0 rfl 2 (by decide) (hts _ (List.mem_cons_of_mem _ t_101)) rfl d_GV_presentSet_21 ?_
    refine g_iload_n hx hb d_GV_presentSet_24 rfl rfl ?_
    refine g_iald hx hb hK.1 w_3 0 rfl (show _ < 16 by omega) (by decide) rfl d_GV_presentSet_25 ?_
    exact g_iret hx hb hr hlk d_GV_presentSet_26 (⟨by unfold cps; rw [if_neg hc1], rfl⟩)
  · refine g_iconst hx hb d_GV_presentSet_14 k_iconst_1 ?_
    refine g_iload_n hx hb d_GV_presentSet_15 rfl rfl ?_
    refine n_ishl hx hb d_GV_presentSet_16 (by omega) (q_p32 (by omega)) ?_
    refine g_goto (tgt := 26) hx hb d_GV_presentSet_17 (by decide) ?_
    exact g_iret hx hb hr hlk d_GV_presentSet_26 (⟨by unfold cps; rw [if_pos hc1, Nat.one_mul], rfl⟩)
set_option maxRecDepth 100000 in
set_option maxHeartbeats 4000000 in
theorem ct_GV_isFormed (l : Launch) (D : va_G) (ad : Nat → Nat) (ct : Nat → ClassId) (had : adOk ad) (V : VV) (v : Nat) (h : v < 2 ^ 32) (hf : V 0 4 ≤ 15) : CTi l y_GV_isFormed (mw y_GV_isFormed c_GV_isFormed 2 (some .boolean)) { frames := 0, cells := 0, slots := 0, locals := 0 } (gK D ct) D vcl (gA ad) [.ref (ad 0), .int (nI v)] (gw ad ct V) (fun r w => r = nI (bN (1 ≤ v ∧ v ≤ V 0 4)) ∧ w = gw ad ct V) := by
  refine ct_i (by decide) rfl rfl (Nat.le_of_ble_eq_true rfl) ?_
  intro pg en sx mx blw mth cdx hx hb hr hts hown hlk hml hK
  refine g_L (L' := [_, _]) rfl ?_
  refine g_iload_n hx hb d_GV_isFormed_0 rfl rfl ?_
  refine g_iconst hx hb d_GV_isFormed_1 k_iconst_1 ?_
  refine g_icmp_lt (tgt := 17) hx hb d_GV_isFormed_2 (by decide) (fun hc1 => ?_) (fun hc1 => ?_)
  · have hc1 : ¬ (1 ≤ v ∧ v ≤ V 0 4) := fun z => (nI_nlt z.1 (by omega)) hc1
    refine g_iconst hx hb d_GV_isFormed_17 k_iconst_0 ?_
    exact g_zret hx hb hr hlk (by decide +kernel) d_GV_isFormed_18 (⟨by first | rw [bN_t (by omega)] | rw [bN_f (by omega)], rfl⟩)
  · have hc1 : 1 ≤ v ∧ v < 2 ^ 31 := q_ge1 h hc1
    refine g_iload_n hx hb d_GV_isFormed_5 rfl rfl ?_
    refine g_aload_n hx hb d_GV_isFormed_6 rfl rfl ?_
    refine g_get hx hb hts (in_mw in_GV) hown hK.1 w_0 rfl 4 (by decide) (hts _ (List.mem_cons_of_mem _ t_103)) rfl d_GV_isFormed_7 ?_
    refine n_icmp_gt (tgt := 17) hx hb d_GV_isFormed_10 (by decide) (by omega) (by omega) (fun hc2 => ?_) (fun hc2 => ?_)
    · refine g_iconst hx hb d_GV_isFormed_17 k_iconst_0 ?_
      exact g_zret hx hb hr hlk (by decide +kernel) d_GV_isFormed_18 (⟨by first | rw [bN_t (by omega)] | rw [bN_f (by omega)], rfl⟩)
    · refine g_iconst hx hb d_GV_isFormed_13 k_iconst_1 ?_
      refine g_goto (tgt := 18) hx hb d_GV_isFormed_14 (by decide) ?_
      exact g_zret hx hb hr hlk (by decide +kernel) d_GV_isFormed_18 (⟨by first | rw [bN_t (by omega)] | rw [bN_f (by omega)], rfl⟩)
set_option maxRecDepth 100000 in
set_option maxHeartbeats 4000000 in
theorem ct_GV_canForm (l : Launch) (D : va_G) (ad : Nat → Nat) (ct : Nat → ClassId) (had : adOk ad) (V : VV) (set : Nat) (hs : set < 16) (hcb : ∀ p, p < 4 → V (5 + 8 * p) 3 ≤ 1 ∧ V (5 + 8 * p) 2 < 16) : CTi l y_GV_canForm (mw y_GV_canForm c_GV_canForm 3 (some .boolean)) { frames := 1, cells := 0, slots := 0, locals := 21 } (gK D ct) D vcl (gA ad) [.ref (ad 0), .int (nI set)] (gw ad ct V) (fun r w => r = nI (bC (cfm V set)) ∧ w = gw ad ct V) := by
  refine ct_i (by decide) rfl rfl (Nat.le_of_ble_eq_true rfl) ?_
  intro pg en sx mx blw mth cdx hx hb hr hts hown hlk hml hK
  refine g_L (L' := [_, _, _]) rfl ?_
  refine g_iconst hx hb d_GV_canForm_0 k_iconst_0 ?_
  refine g_istore_n (L' := [_, _, _]) hx hb d_GV_canForm_1 rfl (Nat.le_of_ble_eq_true rfl) rfl ?_
  refine g_loop 4 (fun q => gw ad ct V) (fun q => [some (.ref (ad 0)), some (.int (nI set)), some (.int (nI q))]) (fun q => ∀ j, j < q → set / 2 ^ j % 2 = 1 → ¬ V (5 + 8 * j) 3 = 0 ∧ set &&& V (5 + 8 * j) 2 = set) 0 (by omega) (fun j hj => absurd hj (Nat.not_lt_zero j)) rfl rfl ?_
  intro q hq0_q hqE_q hI_q ih_q
  try dsimp only
  refine g_iload_n hx hb d_GV_canForm_2 rfl rfl ?_
  refine g_iconst hx hb d_GV_canForm_3 k_iconst_4 ?_
  refine n_icmp_ge (tgt := 51) hx hb d_GV_canForm_4 (by decide) (by omega) (by omega) (fun hc1 => ?_) (fun hc1 => ?_)
  · refine g_iconst hx hb d_GV_canForm_51 k_iconst_1 ?_
    exact g_zret hx hb hr hlk (by decide +kernel) d_GV_canForm_52 (⟨by rw [bC_t (show cfm V set from fun j hj hb => hI_q j (by omega) hb)], rfl⟩)
  · have hq : q < 4 := by omega
    have hb3 := hcb q hq
    refine g_iload_n hx hb d_GV_canForm_7 rfl rfl ?_
    refine g_iload_n hx hb d_GV_canForm_8 rfl rfl ?_
    refine g_callSi (nn := 2) ⟨hx, hb, hml.trans rfl, hown, hts⟩ (ct_GV_has l D ad ct had _ _ _ (by omega) (by omega)) (mk_S hts t_140 t_141 t_1 t_142 rfl rfl (by decide +kernel) ⟨Nat.le_of_ble_eq_true rfl, Nat.le_of_ble_eq_true rfl⟩) (fun _ h => h) (gK_ok D ct) hK (Nat.le_of_ble_eq_true rfl) ⟨Nat.zero_le _, Nat.zero_le _⟩ rfl rfl d_GV_canForm_9 ?_
    rintro _ _ ⟨rfl, rfl⟩
    refine n_if_eq (tgt := 45) hx hb d_GV_canForm_12 (by decide) (by omega) (fun hbit => ?_) (fun hbit => ?_)
    · refine n_iinc (L' := [_, _, _]) hx hb d_GV_canForm_45 rfl rfl ?_
      refine g_goto (tgt := 2) hx hb d_GV_canForm_48 (by decide) ?_
      refine ih_q (by omega) (fun j hj hb => ?_)
      rcases Nat.lt_succ_iff_lt_or_eq.mp hj with z | z
      · exact hI_q j z hb
      · subst z
        first | (exfalso; omega) | exact ⟨hop, (an_16 set hs _ hb3.2).mp hsub⟩
    · refine g_aload_n hx hb d_GV_canForm_15 rfl rfl ?_
      refine g_get hx hb hts (in_mw in_GV) hown hK.1 w_0 rfl 0 (by decide) (hts _ (List.mem_cons_of_mem _ t_99)) rfl d_GV_canForm_16 ?_
      refine g_iload_n hx hb d_GV_canForm_19 rfl rfl ?_
      refine g_aald hx hb hK.1 w_1 2 rfl hq (by decide) (fP hq) d_GV_canForm_20 ?_
      refine g_getN hx hb hts (in_mw in_PS) hown hK.1 (w_P hq) rfl 3 (by decide) (nst_use hK nw_28 _) rfl d_GV_canForm_21 ?_
      refine n_if_eq (tgt := 43) hx hb d_GV_canForm_24 (by decide) (by omega) (fun hop => ?_) (fun hop => ?_)
      · refine g_iconst hx hb d_GV_canForm_43 k_iconst_0 ?_
        exact g_zret hx hb hr hlk (by decide +kernel) d_GV_canForm_44 (⟨by rw [bC_f (show ¬ cfm V set from fun z => (z q hq (by omega)).1 hop)], rfl⟩)
      · refine g_iload_n hx hb d_GV_canForm_27 rfl rfl ?_
        refine g_aload_n hx hb d_GV_canForm_28 rfl rfl ?_
        refine g_get hx hb hts (in_mw in_GV) hown hK.1 w_0 rfl 0 (by decide) (hts _ (List.mem_cons_of_mem _ t_99)) rfl d_GV_canForm_29 ?_
        refine g_iload_n hx hb d_GV_canForm_32 rfl rfl ?_
        refine g_aald hx hb hK.1 w_1 2 rfl hq (by decide) (fP hq) d_GV_canForm_33 ?_
        refine g_getN hx hb hts (in_mw in_PS) hown hK.1 (w_P hq) rfl 2 (by decide) (nst_use hK nw_27 _) rfl d_GV_canForm_34 ?_
        refine g_iconst hx hb d_GV_canForm_37 k_iconst_m1 ?_
        refine g_ixor hx hb d_GV_canForm_38 ?_
        refine g_iand hx hb d_GV_canForm_39 ?_
        refine g_if_eq (tgt := 45) hx hb d_GV_canForm_40 (by decide) (fun hsub => ?_) (fun hsub => ?_)
        · refine n_iinc (L' := [_, _, _]) hx hb d_GV_canForm_45 rfl rfl ?_
          refine g_goto (tgt := 2) hx hb d_GV_canForm_48 (by decide) ?_
          refine ih_q (by omega) (fun j hj hb => ?_)
          rcases Nat.lt_succ_iff_lt_or_eq.mp hj with z | z
          · exact hI_q j z hb
          · subst z
            first | (exfalso; omega) | exact ⟨hop, (an_16 set hs _ hb3.2).mp hsub⟩
        · refine g_iconst hx hb d_GV_canForm_43 k_iconst_0 ?_
          exact g_zret hx hb hr hlk (by decide +kernel) d_GV_canForm_44 (⟨by rw [bC_f (show ¬ cfm V set from fun z => hsub ((an_16 set hs _ hb3.2).mpr (z q hq (by omega)).2))], rfl⟩)
set_option maxRecDepth 100000 in
set_option maxHeartbeats 4000000 in
theorem ct_GV_putToOthers (l : Launch) (D : va_G) (ad : Nat → Nat) (ct : Nat → ClassId) (had : adOk ad) (V : VV) (p set x : Nat) (hp : p < 4) (hs : set < 2 ^ 31) (hE : ∀ i, i < 16 → V (37 + 2 * i) 2 ≤ 75) : CTv l y_GV_putToOthers (mw y_GV_putToOthers c_GV_putToOthers 5 none) { frames := 1, cells := 0, slots := 0, locals := 21 } (gK D ct) D vcl (gA ad) [.ref (ad 0), .int (nI p), .int (nI set), .int (nI x)] (gw ad ct V) (fun w => w = gw ad ct (cpo V p set x 4)) := by
  refine ct_v (by decide) rfl rfl (Nat.le_of_ble_eq_true rfl) ?_
  intro pg en sx mx blw mth cdx hx hb hr hts hown hlk hml hK
  refine g_L (L' := [_, _, _, _, _]) rfl ?_
  refine g_iconst hx hb d_GV_putToOthers_0 k_iconst_0 ?_
  refine g_istore (L' := [_, _, _, _, _]) hx hb d_GV_putToOthers_1 (Nat.le_of_ble_eq_true rfl) rfl ?_
  refine g_loop 4 (fun q => gw ad ct (cpo V p set x q)) (fun q => [some (.ref (ad 0)), some (.int (nI p)), some (.int (nI set)), some (.int (nI x)), some (.int (nI q))]) (fun q => True) 0 (by omega) trivial rfl rfl ?_
  intro q hq0_q hqE_q hI_q ih_q
  try dsimp only
  refine g_iload hx hb d_GV_putToOthers_3 rfl ?_
  refine g_iconst hx hb d_GV_putToOthers_5 k_iconst_4 ?_
  refine n_icmp_ge (tgt := 45) hx hb d_GV_putToOthers_6 (by decide) (by omega) (by omega) (fun hc1 => ?_) (fun hc1 => ?_)
  · have hq4 : q = 4 := by omega
    subst hq4
    exact g_vret hx hb hr hlk d_GV_putToOthers_45 (rfl)
  · refine g_iload hx hb d_GV_putToOthers_9 rfl ?_
    refine g_iload_n hx hb d_GV_putToOthers_11 rfl rfl ?_
    refine n_icmp_eq (tgt := 39) hx hb d_GV_putToOthers_12 (by decide) (by omega) (by omega) (fun heq => ?_) (fun heq => ?_)
    · refine n_iinc (L' := [_, _, _, _, _]) hx hb d_GV_putToOthers_39 rfl rfl ?_
      refine g_goto (tgt := 3) hx hb d_GV_putToOthers_42 (by decide) ?_
      refine g_w (congrArg (gw ad ct) (show _ = cpo V p set x (q + 1) from by rw [cpo, if_neg (fun z => by omega)])) ?_
      exact ih_q (by omega) trivial
    · refine g_iload_n hx hb d_GV_putToOthers_15 rfl rfl ?_
      refine g_iload hx hb d_GV_putToOthers_16 rfl ?_
      refine g_callSi (nn := 2) ⟨hx, hb, hml.trans rfl, hown, hts⟩ (ct_GV_has l D ad ct had _ _ _ (by omega) (by omega)) (mk_S hts t_140 t_141 t_1 t_142 rfl rfl (by decide +kernel) ⟨Nat.le_of_ble_eq_true rfl, Nat.le_of_ble_eq_true rfl⟩) (fun _ h => h) (gK_ok D ct) hK (Nat.le_of_ble_eq_true rfl) ⟨Nat.zero_le _, Nat.zero_le _⟩ rfl rfl d_GV_putToOthers_18 ?_
      rintro _ _ ⟨rfl, rfl⟩
      refine n_if_eq (tgt := 39) hx hb d_GV_putToOthers_21 (by decide) (by omega) (fun hbit => ?_) (fun hbit => ?_)
      · refine n_iinc (L' := [_, _, _, _, _]) hx hb d_GV_putToOthers_39 rfl rfl ?_
        refine g_goto (tgt := 3) hx hb d_GV_putToOthers_42 (by decide) ?_
        refine g_w (congrArg (gw ad ct) (show _ = cpo V p set x (q + 1) from by rw [cpo, if_neg (fun z => by omega)])) ?_
        exact ih_q (by omega) trivial
      · refine g_aload_n hx hb d_GV_putToOthers_24 rfl rfl ?_
        refine g_get hx hb hts (in_mw in_GV) hown hK.1 w_0 rfl 1 (by decide) (hts _ (List.mem_cons_of_mem _ t_100)) rfl d_GV_putToOthers_25 ?_
        refine g_iload_n hx hb d_GV_putToOthers_28 rfl rfl ?_
        refine g_iload hx hb d_GV_putToOthers_29 rfl ?_
        refine g_callSi (nn := 2) ⟨hx, hb, hml.trans rfl, hown, hts⟩ (ct_GV_lineIndex l D ad ct had _ _ _) (mk_S hts t_143 t_144 t_1 t_145 rfl rfl (by decide +kernel) ⟨Nat.le_of_ble_eq_true rfl, Nat.le_of_ble_eq_true rfl⟩) (fun _ h => h) (gK_ok D ct) hK (Nat.le_of_ble_eq_true rfl) ⟨Nat.zero_le _, Nat.zero_le _⟩ rfl rfl d_GV_putToOthers_31 ?_
        rintro _ _ ⟨rfl, rfl⟩
        refine g_aald hx hb hK.1 w_2 3 rfl (by omega) (by decide) (fL (by omega)) d_GV_putToOthers_34 ?_
        refine g_iload_n hx hb d_GV_putToOthers_35 rfl rfl ?_
        refine g_callVNv (C := "GroupViews$Line") (nn := 1) ⟨hx, hb, hml.trans rfl, hown, hts⟩ (ct_LN_put l D ad ct had _ _ _ (by omega) (cpo_end hp (by omega) (hE _ (by omega)) q (by omega))) (mk_VN hK hts nw_146 t_148 ts_LN_put t_3 t_149 rfl rfl (by decide +kernel) ⟨Nat.le_of_ble_eq_true rfl, Nat.le_of_ble_eq_true rfl⟩) hK.1 rfl (w_L (by omega)) rfl (fun _ h => h) (gK_ok D ct) hK (Nat.le_of_ble_eq_true rfl) ⟨Nat.zero_le _, Nat.zero_le _⟩ rfl rfl d_GV_putToOthers_36 ?_
        rintro _ rfl
        refine n_iinc (L' := [_, _, _, _, _]) hx hb d_GV_putToOthers_39 rfl rfl ?_
        refine g_goto (tgt := 3) hx hb d_GV_putToOthers_42 (by decide) ?_
        refine g_w (congrArg (gw ad ct) (show _ = cpo V p set x (q + 1) from by rw [cpo, if_pos ⟨heq, by omega⟩])) ?_
        exact ih_q (by omega) trivial
set_option maxRecDepth 100000 in
set_option maxHeartbeats 4000000 in
theorem ct_GV_receiveSync (l : Launch) (D : va_G) (ad : Nat → Nat) (ct : Nat → ClassId) (had : adOk ad) (V : VV) (a p c : Nat) (ha : a < 4) (hp : p < 4) (hc : c < 16) (hv : V (5 + 8 * p + 5) c ≤ 15) (hu : pkd (V (5 + 8 * p + 6) c)) : CTv l y_GV_receiveSync (mw y_GV_receiveSync c_GV_receiveSync 8 none) { frames := 1, cells := 0, slots := 0, locals := 23 } (gK D ct) D vcl (gA ad) [.ref (ad 0), .ref (ad (5 + 8 * a)), .int (nI p), .int (nI c)] (gw ad ct V) (fun w => w = gw ad ct (crs V a p c)) := by
  refine ct_v (by decide) rfl rfl (Nat.le_of_ble_eq_true rfl) ?_
  intro pg en sx mx blw mth cdx hx hb hr hts hown hlk hml hK
  refine g_L (L' := [_, _, _, _, _, _, _, _]) rfl ?_
  have lu := pkd_lt hu
  refine g_aload_n hx hb d_GV_receiveSync_0 rfl rfl ?_
  refine g_iload_n hx hb d_GV_receiveSync_1 rfl rfl ?_
  refine g_iload_n hx hb d_GV_receiveSync_2 rfl rfl ?_
  refine g_callVNv (C := "GroupViews$ProcessState") (nn := 2) ⟨hx, hb, hml.trans rfl, hown, hts⟩ (ct_PS_learnSync l D ad ct had _ _ _ _ ha (by omega) (by omega)) (mk_VN hK hts nw_157 t_159 ts_PS_learnSync t_2 t_160 rfl rfl (by decide +kernel) ⟨Nat.le_of_ble_eq_true rfl, Nat.le_of_ble_eq_true rfl⟩) hK.1 rfl (w_P ha) rfl (fun _ h => h) (gK_ok D ct) hK (Nat.le_of_ble_eq_true rfl) ⟨Nat.zero_le _, Nat.zero_le _⟩ rfl rfl d_GV_receiveSync_3 ?_
  rintro _ rfl
  refine g_aload_n hx hb d_GV_receiveSync_6 rfl rfl ?_
  refine g_get hx hb hts (in_mw in_GV) hown hK.1 w_0 rfl 0 (by decide) (hts _ (List.mem_cons_of_mem _ t_99)) rfl d_GV_receiveSync_7 ?_
  refine g_iload_n hx hb d_GV_receiveSync_10 rfl rfl ?_
  refine g_aald hx hb hK.1 w_1 2 rfl hp (by decide) (fP hp) d_GV_receiveSync_11 ?_
  refine g_getN hx hb hts (in_mw in_PS) hown hK.1 (w_P hp) rfl 13 (by decide) (nst_use hK nw_45 _) rfl d_GV_receiveSync_12 ?_
  refine g_iload_n hx hb d_GV_receiveSync_15 rfl rfl ?_
  refine g_iald hx hb hK.1 (w_Pa (k := 5) hp (by decide) (by decide)) 0 rfl (show _ < 16 by omega) (by decide) rfl d_GV_receiveSync_16 ?_
  refine g_val (show nI _ = nI (V (5 + 8 * p + 5) c) from congrArg nI (by unfold csy; rw [pt_ne (by omega)])) ?_
  refine g_istore (L' := [_, _, _, _, _, _, _, _]) hx hb d_GV_receiveSync_17 (Nat.le_of_ble_eq_true rfl) rfl ?_
  refine g_iload hx hb d_GV_receiveSync_19 rfl ?_
  refine n_if_ne (tgt := 25) hx hb d_GV_receiveSync_21 (by decide) (by omega) (fun hc1 => ?_) (fun hc1 => ?_)
  · refine g_aload_n hx hb d_GV_receiveSync_25 rfl rfl ?_
    refine g_get hx hb hts (in_mw in_GV) hown hK.1 w_0 rfl 0 (by decide) (hts _ (List.mem_cons_of_mem _ t_99)) rfl d_GV_receiveSync_26 ?_
    refine g_iload_n hx hb d_GV_receiveSync_29 rfl rfl ?_
    refine g_aald hx hb hK.1 w_1 2 rfl hp (by decide) (fP hp) d_GV_receiveSync_30 ?_
    refine g_getN hx hb hts (in_mw in_PS) hown hK.1 (w_P hp) rfl 14 (by decide) (nst_use hK nw_47 _) rfl d_GV_receiveSync_31 ?_
    refine g_iload_n hx hb d_GV_receiveSync_34 rfl rfl ?_
    refine g_iald hx hb hK.1 (w_Pa (k := 6) hp (by decide) (by decide)) 0 rfl (show _ < 16 by omega) (by decide) rfl d_GV_receiveSync_35 ?_
    refine g_val (show nI _ = nI (V (5 + 8 * p + 6) c) from congrArg nI (by unfold csy; rw [pt_ne (by omega)])) ?_
    refine g_istore (L' := [_, _, _, _, _, _, _, _]) hx hb d_GV_receiveSync_36 (Nat.le_of_ble_eq_true rfl) rfl ?_
    refine g_iconst hx hb d_GV_receiveSync_38 k_iconst_0 ?_
    refine g_istore (L' := [_, _, _, _, _, _, _, _]) hx hb d_GV_receiveSync_39 (Nat.le_of_ble_eq_true rfl) rfl ?_
    refine g_loop 4 (fun r => gw ad ct (crl (csy V a p c) a (V (5 + 8 * p + 5) c) (V (5 + 8 * p + 6) c) r)) (fun r => [some (.ref (ad 0)), some (.ref (ad (5 + 8 * a))), some (.int (nI p)), some (.int (nI c)), some (.int (nI (V (5 + 8 * p + 5) c))), some (.int (nI (V (5 + 8 * p + 6) c))), some (.int (nI r)), none]) (fun r => True) 0 (by omega) trivial rfl rfl ?_
    intro r hq0_r hqE_r hI_r ih_r
    try dsimp only
    refine g_iload hx hb d_GV_receiveSync_41 rfl ?_
    refine g_iconst hx hb d_GV_receiveSync_43 k_iconst_4 ?_
    refine n_icmp_ge (tgt := 84) hx hb d_GV_receiveSync_44 (by decide) (by omega) (by omega) (fun hc2 => ?_) (fun hc2 => ?_)
    · exact g_vret hx hb hr hlk d_GV_receiveSync_84 (by unfold crs; rw [if_neg hc1, show r = 4 by omega])
    · have hr4 : r < 4 := by omega
      have hcn := hu.2 r hr4
      refine g_iconst hx hb d_GV_receiveSync_47 k_iconst_1 ?_
      refine g_istore (L' := [_, _, _, _, _, _, _, _]) hx hb d_GV_receiveSync_48 (Nat.le_of_ble_eq_true rfl) rfl ?_
      refine g_loop (cnt (V (5 + 8 * p + 6) c) r) (fun n => gw ad ct (crn (crl (csy V a p c) a (V (5 + 8 * p + 5) c) (V (5 + 8 * p + 6) c) r) a (V (5 + 8 * p + 5) c) r n)) (fun n => [some (.ref (ad 0)), some (.ref (ad (5 + 8 * a))), some (.int (nI p)), some (.int (nI c)), some (.int (nI (V (5 + 8 * p + 5) c))), some (.int (nI (V (5 + 8 * p + 6) c))), some (.int (nI r)), some (.int (nI (n + 1)))]) (fun n => True) 0 (Nat.zero_le _) trivial rfl rfl ?_
      intro n hq0_n hqE_n hI_n ih_n
      try dsimp only
      refine g_iload hx hb d_GV_receiveSync_50 rfl ?_
      refine g_iload hx hb d_GV_receiveSync_52 rfl ?_
      refine g_iload hx hb d_GV_receiveSync_54 rfl ?_
      refine g_callSi (nn := 2) ⟨hx, hb, hml.trans rfl, hown, hts⟩ (ct_GV_countOf l D ad ct had _ _ _ (by omega) (by omega)) (mk_S hts t_201 t_202 t_1 t_203 rfl rfl (by decide +kernel) ⟨Nat.le_of_ble_eq_true rfl, Nat.le_of_ble_eq_true rfl⟩) (fun _ h => h) (gK_ok D ct) hK (Nat.le_of_ble_eq_true rfl) ⟨Nat.zero_le _, Nat.zero_le _⟩ rfl rfl d_GV_receiveSync_56 ?_
      rintro _ _ ⟨rfl, rfl⟩
      refine n_icmp_gt (tgt := 78) hx hb d_GV_receiveSync_59 (by decide) (by omega) (by omega) (fun hc3 => ?_) (fun hc3 => ?_)
      · have hn : n = cnt (V (5 + 8 * p + 6) c) r := by omega
        subst hn
        refine n_iinc (L' := [_, _, _, _, _, _, _, _]) hx hb d_GV_receiveSync_78 rfl rfl ?_
        refine g_goto (tgt := 41) hx hb d_GV_receiveSync_81 (by decide) ?_
        refine g_sub (L' := [_, _, _, _, _, _, _, none]) ⟨Or.inr rfl, Or.inr rfl, Or.inr rfl, Or.inr rfl, Or.inr rfl, Or.inr rfl, Or.inr rfl, Or.inl rfl, trivial⟩ ?_
        exact ih_r (by omega) trivial
      · refine g_aload_n hx hb d_GV_receiveSync_62 rfl rfl ?_
        refine g_iload hx hb d_GV_receiveSync_63 rfl ?_
        refine g_iload hx hb d_GV_receiveSync_65 rfl ?_
        refine g_iload hx hb d_GV_receiveSync_67 rfl ?_
        refine g_callVNv (C := "GroupViews$ProcessState") (nn := 3) ⟨hx, hb, hml.trans rfl, hown, hts⟩ (ct_PS_learnMessage l D ad ct had _ _ _ _ _ ha (by omega) (by omega)) (mk_VN hK hts nw_128 t_130 ts_PS_learnMessage t_2 t_131 rfl rfl (by decide +kernel) ⟨Nat.le_of_ble_eq_true rfl, Nat.le_of_ble_eq_true rfl⟩) hK.1 rfl (w_P ha) rfl (fun _ h => h) (gK_ok D ct) hK (Nat.le_of_ble_eq_true rfl) ⟨Nat.zero_le _, Nat.zero_le _⟩ rfl rfl d_GV_receiveSync_69 ?_
        rintro _ rfl
        refine n_iinc (L' := [_, _, _, _, _, _, _, _]) hx hb d_GV_receiveSync_72 rfl rfl ?_
        refine g_goto (tgt := 50) hx hb d_GV_receiveSync_75 (by decide) ?_
        exact ih_n (by omega) trivial
  · exact g_vret hx hb hr hlk d_GV_receiveSync_24 (by unfold crs; rw [if_pos hc1])
set_option maxRecDepth 100000 in
set_option maxHeartbeats 4000000 in
theorem ct_GV_isDeliverable (l : Launch) (D : va_G) (ad : Nat → Nat) (ct : Nat → ClassId) (had : adOk ad) (V : VV) (a q lim : Nat) (ha : a < 4) (hq : q < 4) (hl : pkd lim) (hcb : CB V) : CTi l y_GV_isDeliverable (mw y_GV_isDeliverable c_GV_isDeliverable 7 (some .boolean)) { frames := 1, cells := 0, slots := 0, locals := 22 } (gK D ct) D vcl (gA ad) [.ref (ad 0), .ref (ad (5 + 8 * a)), .int (nI q), .int (nI lim)] (gw ad ct V) (fun r w => r = nI (bC (cdl V a lim q)) ∧ w = gw ad ct V) := by
  refine ct_i (by decide) rfl rfl (Nat.le_of_ble_eq_true rfl) ?_
  intro pg en sx mx blw mth cdx hx hb hr hts hown hlk hml hK
  refine g_L (L' := [_, _, _, _, _, _, _]) rfl ?_
  have hpa := hcb.p a ha
  have hde := hpa.2.2.2.2.2.2.2.2
  have l1 := pkd_lt hde
  have l2 := pkd_lt hl
  have c1 := hde.2 q hq
  have c2 := hl.2 q hq
  have hkn := hcb.kn a (V (5 + 8 * a) 0 * 4 + q) ha (by omega)
  refine g_aload_n hx hb d_GV_isDeliverable_0 rfl rfl ?_
  refine g_getN hx hb hts (in_mw in_PS) hown hK.1 (w_P ha) rfl 8 (by decide) (nst_use hK nw_36 _) rfl d_GV_isDeliverable_1 ?_
  refine g_iload_n hx hb d_GV_isDeliverable_4 rfl rfl ?_
  refine g_callSi (nn := 2) ⟨hx, hb, hml.trans rfl, hown, hts⟩ (ct_GV_countOf l D ad ct had _ _ _ (by omega) (by omega)) (mk_S hts t_201 t_202 t_1 t_203 rfl rfl (by decide +kernel) ⟨Nat.le_of_ble_eq_true rfl, Nat.le_of_ble_eq_true rfl⟩) (fun _ h => h) (gK_ok D ct) hK (Nat.le_of_ble_eq_true rfl) ⟨Nat.zero_le _, Nat.zero_le _⟩ rfl rfl d_GV_isDeliverable_5 ?_
  rintro _ _ ⟨rfl, rfl⟩
  refine g_istore (L' := [_, _, _, _, _, _, _]) hx hb d_GV_isDeliverable_8 (Nat.le_of_ble_eq_true rfl) rfl ?_
  refine g_iload hx hb d_GV_isDeliverable_10 rfl ?_
  refine g_iload_n hx hb d_GV_isDeliverable_12 rfl rfl ?_
  refine g_iload_n hx hb d_GV_isDeliverable_13 rfl rfl ?_
  refine g_callSi (nn := 2) ⟨hx, hb, hml.trans rfl, hown, hts⟩ (ct_GV_countOf l D ad ct had _ _ _ (by omega) (by omega)) (mk_S hts t_201 t_202 t_1 t_203 rfl rfl (by decide +kernel) ⟨Nat.le_of_ble_eq_true rfl, Nat.le_of_ble_eq_true rfl⟩) (fun _ h => h) (gK_ok D ct) hK (Nat.le_of_ble_eq_true rfl) ⟨Nat.zero_le _, Nat.zero_le _⟩ rfl rfl d_GV_isDeliverable_14 ?_
  rintro _ _ ⟨rfl, rfl⟩
  refine n_icmp_ge (tgt := 32) hx hb d_GV_isDeliverable_17 (by decide) (by omega) (by omega) (fun hlt => ?_) (fun hlt => ?_)
  · refine g_iconst hx hb d_GV_isDeliverable_32 k_iconst_0 ?_
    exact g_zret hx hb hr hlk (by decide +kernel) d_GV_isDeliverable_33 (⟨by rw [bC_f (show ¬ cdl V a lim q from fun z => by have := z.1; omega)], rfl⟩)
  · have hvc := hcb.vc q (V (5 + 8 * a) 0 * 4 + cnt (V (5 + 8 * a) 8) q) hq (by omega)
    have l3 := pkd_lt hvc
    refine g_aload_n hx hb d_GV_isDeliverable_20 rfl rfl ?_
    refine g_iload_n hx hb d_GV_isDeliverable_21 rfl rfl ?_
    refine g_iload hx hb d_GV_isDeliverable_22 rfl ?_
    refine g_iconst hx hb d_GV_isDeliverable_24 k_iconst_1 ?_
    refine n_iadd hx hb d_GV_isDeliverable_25 ?_
    refine g_callVNi (C := "GroupViews$ProcessState") (nn := 2) ⟨hx, hb, hml.trans rfl, hown, hts⟩ (ct_PS_knowsMessage l D ad ct had _ _ _ _ ha (by omega) (by omega) (by omega)) (mk_VN hK hts nw_217 t_219 ts_PS_knowsMessage t_2 t_220 rfl rfl (by decide +kernel) ⟨Nat.le_of_ble_eq_true rfl, Nat.le_of_ble_eq_true rfl⟩) hK.1 rfl (w_P ha) rfl (fun _ h => h) (gK_ok D ct) hK (Nat.le_of_ble_eq_true rfl) ⟨Nat.zero_le _, Nat.zero_le _⟩ rfl rfl d_GV_isDeliverable_26 ?_
    rintro _ _ ⟨rfl, rfl⟩
    refine n_if_ne (tgt := 34) hx hb d_GV_isDeliverable_29 (by decide) (by omega) (fun hkw => ?_) (fun hkw => ?_)
    · refine g_aload_n hx hb d_GV_isDeliverable_34 rfl rfl ?_
      refine g_get hx hb hts (in_mw in_GV) hown hK.1 w_0 rfl 0 (by decide) (hts _ (List.mem_cons_of_mem _ t_99)) rfl d_GV_isDeliverable_35 ?_
      refine g_iload_n hx hb d_GV_isDeliverable_38 rfl rfl ?_
      refine g_aald hx hb hK.1 w_1 2 rfl hq (by decide) (fP hq) d_GV_isDeliverable_39 ?_
      refine g_getN hx hb hts (in_mw in_PS) hown hK.1 (w_P hq) rfl 12 (by decide) (nst_use hK nw_43 _) rfl d_GV_isDeliverable_40 ?_
      refine g_aload_n hx hb d_GV_isDeliverable_43 rfl rfl ?_
      refine g_getN hx hb hts (in_mw in_PS) hown hK.1 (w_P ha) rfl 0 (by decide) (nst_use hK nw_24 _) rfl d_GV_isDeliverable_44 ?_
      refine g_iload hx hb d_GV_isDeliverable_47 rfl ?_
      refine g_iconst hx hb d_GV_isDeliverable_49 k_iconst_1 ?_
      refine n_iadd hx hb d_GV_isDeliverable_50 ?_
      refine g_callSi (nn := 2) ⟨hx, hb, hml.trans rfl, hown, hts⟩ (ct_GV_slotOf l D ad ct had _ _ _ (by omega)) (mk_S hts t_122 t_123 t_1 t_124 rfl rfl (by decide +kernel) ⟨Nat.le_of_ble_eq_true rfl, Nat.le_of_ble_eq_true rfl⟩) (fun _ h => h) (gK_ok D ct) hK (Nat.le_of_ble_eq_true rfl) ⟨Nat.zero_le _, Nat.zero_le _⟩ rfl rfl d_GV_isDeliverable_51 ?_
      rintro _ _ ⟨rfl, rfl⟩
      refine g_val (show nI _ = nI (V (5 + 8 * a) 0 * 4 + cnt (V (5 + 8 * a) 8) q) from congrArg nI (by omega)) ?_
      refine g_iald hx hb hK.1 (w_Pa (k := 4) hq (by decide) (by decide)) 0 rfl (show _ < 64 by omega) (by decide) rfl d_GV_isDeliverable_54 ?_
      refine g_istore (L' := [_, _, _, _, _, _, _]) hx hb d_GV_isDeliverable_55 (Nat.le_of_ble_eq_true rfl) rfl ?_
      refine g_iconst hx hb d_GV_isDeliverable_57 k_iconst_0 ?_
      refine g_istore (L' := [_, _, _, _, _, _, _]) hx hb d_GV_isDeliverable_58 (Nat.le_of_ble_eq_true rfl) rfl ?_
      refine g_loop 4 (fun j => gw ad ct V) (fun j => [some (.ref (ad 0)), some (.ref (ad (5 + 8 * a))), some (.int (nI q)), some (.int (nI lim)), some (.int (nI (cnt (V (5 + 8 * a) 8) q))), some (.int (nI (V (5 + 8 * q + 4) (V (5 + 8 * a) 0 * 4 + cnt (V (5 + 8 * a) 8) q)))), some (.int (nI j))]) (fun j => ∀ i, i < j → cnt (V (5 + 8 * q + 4) (V (5 + 8 * a) 0 * 4 + cnt (V (5 + 8 * a) 8) q)) i ≤ cnt (V (5 + 8 * a) 8) i) 0 (by omega) (fun i hi => absurd hi (Nat.not_lt_zero i)) rfl rfl ?_
      intro j hq0_j hqE_j hI_j ih_j
      try dsimp only
      refine g_iload hx hb d_GV_isDeliverable_60 rfl ?_
      refine g_iconst hx hb d_GV_isDeliverable_62 k_iconst_4 ?_
      refine n_icmp_ge (tgt := 93) hx hb d_GV_isDeliverable_63 (by decide) (by omega) (by omega) (fun hj4 => ?_) (fun hj4 => ?_)
      · refine g_iconst hx hb d_GV_isDeliverable_93 k_iconst_1 ?_
        exact g_zret hx hb hr hlk (by decide +kernel) d_GV_isDeliverable_94 (⟨by rw [bC_t (show cdl V a lim q from ⟨hlt, by omega, fun i hi => hI_j i (by omega)⟩)], rfl⟩)
      · have hj : j < 4 := by omega
        have x1 := hde.2 j hj
        have x2 := hvc.2 j hj
        refine g_aload_n hx hb d_GV_isDeliverable_66 rfl rfl ?_
        refine g_getN hx hb hts (in_mw in_PS) hown hK.1 (w_P ha) rfl 8 (by decide) (nst_use hK nw_36 _) rfl d_GV_isDeliverable_67 ?_
        refine g_iload hx hb d_GV_isDeliverable_70 rfl ?_
        refine g_callSi (nn := 2) ⟨hx, hb, hml.trans rfl, hown, hts⟩ (ct_GV_countOf l D ad ct had _ _ _ (by omega) (by omega)) (mk_S hts t_201 t_202 t_1 t_203 rfl rfl (by decide +kernel) ⟨Nat.le_of_ble_eq_true rfl, Nat.le_of_ble_eq_true rfl⟩) (fun _ h => h) (gK_ok D ct) hK (Nat.le_of_ble_eq_true rfl) ⟨Nat.zero_le _, Nat.zero_le _⟩ rfl rfl d_GV_isDeliverable_72 ?_
        rintro _ _ ⟨rfl, rfl⟩
        refine g_iload hx hb d_GV_isDeliverable_75 rfl ?_
        refine g_iload hx hb d_GV_isDeliverable_77 rfl ?_
        refine g_callSi (nn := 2) ⟨hx, hb, hml.trans rfl, hown, hts⟩ (ct_GV_countOf l D ad ct had _ _ _ (by omega) (by omega)) (mk_S hts t_201 t_202 t_1 t_203 rfl rfl (by decide +kernel) ⟨Nat.le_of_ble_eq_true rfl, Nat.le_of_ble_eq_true rfl⟩) (fun _ h => h) (gK_ok D ct) hK (Nat.le_of_ble_eq_true rfl) ⟨Nat.zero_le _, Nat.zero_le _⟩ rfl rfl d_GV_isDeliverable_79 ?_
        rintro _ _ ⟨rfl, rfl⟩
        refine n_icmp_ge (tgt := 87) hx hb d_GV_isDeliverable_82 (by decide) (by omega) (by omega) (fun hle => ?_) (fun hle => ?_)
        · refine n_iinc (L' := [_, _, _, _, _, _, _]) hx hb d_GV_isDeliverable_87 rfl rfl ?_
          refine g_goto (tgt := 60) hx hb d_GV_isDeliverable_90 (by decide) ?_
          refine ih_j (by omega) (fun i hi => ?_)
          rcases Nat.lt_succ_iff_lt_or_eq.mp hi with z | z
          · exact hI_j i z
          · rw [z]; exact hle
        · refine g_iconst hx hb d_GV_isDeliverable_85 k_iconst_0 ?_
          exact g_zret hx hb hr hlk (by decide +kernel) d_GV_isDeliverable_86 (⟨by rw [bC_f (show ¬ cdl V a lim q from fun z => by have := z.2.2 j hj; omega)], rfl⟩)
    · refine g_iconst hx hb d_GV_isDeliverable_32 k_iconst_0 ?_
      exact g_zret hx hb hr hlk (by decide +kernel) d_GV_isDeliverable_33 (⟨by rw [bC_f (show ¬ cdl V a lim q from fun z => by have := z.2.1; omega)], rfl⟩)
set_option maxRecDepth 100000 in
set_option maxHeartbeats 4000000 in
theorem ct_GV_deliverOne (l : Launch) (D : va_G) (ad : Nat → Nat) (ct : Nat → ClassId) (had : adOk ad) (V : VV) (a lim : Nat) (ha : a < 4) (hl : pkd lim) (hcb : CB V) : CTi l y_GV_deliverOne (mw y_GV_deliverOne c_GV_deliverOne 6 (some .int)) { frames := 2, cells := 0, slots := 0, locals := 48 } (gK D ct) D vcl (gA ad) [.ref (ad 0), .ref (ad (5 + 8 * a)), .int (nI lim)] (gw ad ct V) (fun r w => ∃ X', cd1 V a lim r X' ∧ w = gw ad ct X') := by
  refine ct_i (by decide) rfl rfl (Nat.le_of_ble_eq_true rfl) ?_
  intro pg en sx mx blw mth cdx hx hb hr hts hown hlk hml hK
  refine g_L (L' := [_, _, _, _, _, _]) rfl ?_
  have hpa := hcb.p a ha
  have hde := hpa.2.2.2.2.2.2.2.2
  have l1 := pkd_lt hde
  refine g_iconst hx hb d_GV_deliverOne_0 k_iconst_0 ?_
  refine g_istore_n (L' := [_, _, _, _, _, _]) hx hb d_GV_deliverOne_1 rfl (Nat.le_of_ble_eq_true rfl) rfl ?_
  refine g_loop 4 (fun q => gw ad ct V) (fun q => [some (.ref (ad 0)), some (.ref (ad (5 + 8 * a))), some (.int (nI lim)), some (.int (nI q)), none, none]) (fun q => ∀ j, j < q → ¬ cdl V a lim j) 0 (by omega) (fun j hj => absurd hj (Nat.not_lt_zero j)) rfl rfl ?_
  intro q hq0_q hqE_q hI_q ih_q
  try dsimp only
  refine g_iload_n hx hb d_GV_deliverOne_2 rfl rfl ?_
  refine g_iconst hx hb d_GV_deliverOne_3 k_iconst_4 ?_
  refine n_icmp_ge (tgt := 82) hx hb d_GV_deliverOne_4 (by decide) (by omega) (by omega) (fun hc1 => ?_) (fun hc1 => ?_)
  · refine g_iconst hx hb d_GV_deliverOne_82 k_iconst_0 ?_
    exact g_iret hx hb hr hlk d_GV_deliverOne_83 (⟨_, Or.inr ⟨rfl, fun j hj => hI_q j (by omega), rfl⟩, rfl⟩)
  · have hq : q < 4 := by omega
    have c1 := hde.2 q hq
    have c2 := hl.2 q hq
    refine g_aload_n hx hb d_GV_deliverOne_7 rfl rfl ?_
    refine g_aload_n hx hb d_GV_deliverOne_8 rfl rfl ?_
    refine g_iload_n hx hb d_GV_deliverOne_9 rfl rfl ?_
    refine g_iload_n hx hb d_GV_deliverOne_10 rfl rfl ?_
    refine g_callVi (C := "GroupViews") (nn := 3) ⟨hx, hb, hml.trans rfl, hown, hts⟩ (ct_GV_isDeliverable l D ad ct had _ _ _ _ ha hq hl hcb) (mk_V hts t_213 t_215 ts_GV_isDeliverable t_1 t_216 rfl rfl (by decide +kernel) ⟨Nat.le_of_ble_eq_true rfl, Nat.le_of_ble_eq_true rfl⟩) hK.1 rfl w_0 rfl (fun _ h => h) (gK_ok D ct) hK (Nat.le_of_ble_eq_true rfl) ⟨Nat.zero_le _, Nat.zero_le _⟩ rfl rfl d_GV_deliverOne_11 ?_
    rintro _ _ ⟨rfl, rfl⟩
    refine n_if_eq (tgt := 76) hx hb d_GV_deliverOne_14 (by decide) bC_lt (fun hdl => ?_) (fun hdl => ?_)
    · have hdl := bC_0.mp hdl
      refine n_iinc (L' := [_, _, _, _, _, _]) hx hb d_GV_deliverOne_76 rfl rfl ?_
      refine g_goto (tgt := 2) hx hb d_GV_deliverOne_79 (by decide) ?_
      refine ih_q (by omega) (fun j hj => ?_)
      rcases Nat.lt_succ_iff_lt_or_eq.mp hj with z | z
      · exact hI_q j z
      · rw [z]; exact hdl
    · have hdl := bC_n0.mp hdl
      have c3 := hdl.1
      refine g_aload_n hx hb d_GV_deliverOne_17 rfl rfl ?_
      refine g_getN hx hb hts (in_mw in_PS) hown hK.1 (w_P ha) rfl 8 (by decide) (nst_use hK nw_36 _) rfl d_GV_deliverOne_18 ?_
      refine g_iload_n hx hb d_GV_deliverOne_21 rfl rfl ?_
      refine g_callSi (nn := 2) ⟨hx, hb, hml.trans rfl, hown, hts⟩ (ct_GV_countOf l D ad ct had _ _ _ (by omega) (by omega)) (mk_S hts t_201 t_202 t_1 t_203 rfl rfl (by decide +kernel) ⟨Nat.le_of_ble_eq_true rfl, Nat.le_of_ble_eq_true rfl⟩) (fun _ h => h) (gK_ok D ct) hK (Nat.le_of_ble_eq_true rfl) ⟨Nat.zero_le _, Nat.zero_le _⟩ rfl rfl d_GV_deliverOne_22 ?_
      rintro _ _ ⟨rfl, rfl⟩
      refine g_iconst hx hb d_GV_deliverOne_25 k_iconst_1 ?_
      refine n_iadd hx hb d_GV_deliverOne_26 ?_
      refine g_istore (L' := [_, _, _, _, _, _]) hx hb d_GV_deliverOne_27 (Nat.le_of_ble_eq_true rfl) rfl ?_
      refine g_aload_n hx hb d_GV_deliverOne_29 rfl rfl ?_
      refine g_get hx hb hts (in_mw in_GV) hown hK.1 w_0 rfl 0 (by decide) (hts _ (List.mem_cons_of_mem _ t_99)) rfl d_GV_deliverOne_30 ?_
      refine g_iload_n hx hb d_GV_deliverOne_33 rfl rfl ?_
      refine g_aald hx hb hK.1 w_1 2 rfl hq (by decide) (fP hq) d_GV_deliverOne_34 ?_
      refine g_getN hx hb hts (in_mw in_PS) hown hK.1 (w_P hq) rfl 11 (by decide) (nst_use hK nw_41 _) rfl d_GV_deliverOne_35 ?_
      refine g_aload_n hx hb d_GV_deliverOne_38 rfl rfl ?_
      refine g_getN hx hb hts (in_mw in_PS) hown hK.1 (w_P ha) rfl 0 (by decide) (nst_use hK nw_24 _) rfl d_GV_deliverOne_39 ?_
      refine g_iload hx hb d_GV_deliverOne_42 rfl ?_
      refine g_callSi (nn := 2) ⟨hx, hb, hml.trans rfl, hown, hts⟩ (ct_GV_slotOf l D ad ct had _ _ _ (by omega)) (mk_S hts t_122 t_123 t_1 t_124 rfl rfl (by decide +kernel) ⟨Nat.le_of_ble_eq_true rfl, Nat.le_of_ble_eq_true rfl⟩) (fun _ h => h) (gK_ok D ct) hK (Nat.le_of_ble_eq_true rfl) ⟨Nat.zero_le _, Nat.zero_le _⟩ rfl rfl d_GV_deliverOne_44 ?_
      rintro _ _ ⟨rfl, rfl⟩
      refine g_val (show nI _ = nI (V (5 + 8 * a) 0 * 4 + cnt (V (5 + 8 * a) 8) q) from congrArg nI (by omega)) ?_
      refine g_iald hx hb hK.1 (w_Pa (k := 3) hq (by decide) (by decide)) 0 rfl (show _ < 64 by omega) (by decide) rfl d_GV_deliverOne_47 ?_
      refine g_istore (L' := [_, _, _, _, _, _]) hx hb d_GV_deliverOne_48 (Nat.le_of_ble_eq_true rfl) rfl ?_
      refine g_aload_n hx hb d_GV_deliverOne_50 rfl rfl ?_
      refine g_aload_n hx hb d_GV_deliverOne_51 rfl rfl ?_
      refine g_getN hx hb hts (in_mw in_PS) hown hK.1 (w_P ha) rfl 8 (by decide) (nst_use hK nw_36 _) rfl d_GV_deliverOne_52 ?_
      refine g_iload_n hx hb d_GV_deliverOne_55 rfl rfl ?_
      refine g_iload hx hb d_GV_deliverOne_56 rfl ?_
      refine g_callSi (nn := 3) ⟨hx, hb, hml.trans rfl, hown, hts⟩ (ct_GV_withCount l D ad ct had _ _ _ _ hde hq (by omega)) (mk_S hts t_125 t_126 t_1 t_127 rfl rfl (by decide +kernel) ⟨Nat.le_of_ble_eq_true rfl, Nat.le_of_ble_eq_true rfl⟩) (fun _ h => h) (gK_ok D ct) hK (Nat.le_of_ble_eq_true rfl) ⟨Nat.zero_le _, Nat.zero_le _⟩ rfl rfl d_GV_deliverOne_58 ?_
      rintro _ _ ⟨rfl, rfl⟩
      refine g_putN (ty := .int) hx hb hts (in_mw in_PS) ty_PS tyo_PS nm_PS hown hK.1 (gw_D had) (w_P ha) rfl 8 (by decide) (nst_use hK nw_36 _) rfl (by decide +kernel) rfl rfl (Nat.le_of_ble_eq_true rfl) d_GV_deliverOne_61 (s_P ha 8 _ (by decide)) ?_
      refine g_aload_n hx hb d_GV_deliverOne_64 rfl rfl ?_
      refine g_iconst hx hb d_GV_deliverOne_65 k_iconst_1 ?_
      refine g_iload_n hx hb d_GV_deliverOne_66 rfl rfl ?_
      refine g_iload hx hb d_GV_deliverOne_67 rfl ?_
      refine g_iload hx hb d_GV_deliverOne_69 rfl ?_
      refine g_callVNv (C := "GroupViews$ProcessState") (nn := 4) ⟨hx, hb, hml.trans rfl, hown, hts⟩ (ct_PS_setEvent l D ad ct had _ _ _ _ _ _ ha) (mk_VN hK hts nw_221 t_223 ts_PS_setEvent t_2 t_224 rfl rfl (by decide +kernel) ⟨Nat.le_of_ble_eq_true rfl, Nat.le_of_ble_eq_true rfl⟩) hK.1 rfl (w_P ha) rfl (fun _ h => h) (gK_ok D ct) hK (Nat.le_of_ble_eq_true rfl) ⟨Nat.zero_le _, Nat.zero_le _⟩ rfl rfl d_GV_deliverOne_71 ?_
      rintro _ rfl
      refine g_iconst hx hb d_GV_deliverOne_74 k_iconst_1 ?_
      exact g_iret hx hb hr hlk d_GV_deliverOne_75 (⟨_, Or.inl ⟨rfl, q, hq, hdl, hI_q, rfl⟩, rfl⟩)
set_option maxRecDepth 100000 in
set_option maxHeartbeats 4000000 in
theorem ct_GV_isReady (l : Launch) (D : va_G) (ad : Nat → Nat) (ct : Nat → ClassId) (had : adOk ad) (V : VV) (a com : Nat) (ha : a < 4) (hcm : com < 16) (hcb : CB V) : CTi l y_GV_isReady (mw y_GV_isReady c_GV_isReady 4 (some .boolean)) { frames := 1, cells := 0, slots := 0, locals := 22 } (gK D ct) D vcl (gA ad) [.ref (ad 0), .ref (ad (5 + 8 * a)), .int (nI com)] (gw ad ct V) (fun r w => r = nI (bC (crd V a com)) ∧ w = gw ad ct V) := by
  refine ct_i (by decide) rfl rfl (Nat.le_of_ble_eq_true rfl) ?_
  intro pg en sx mx blw mth cdx hx hb hr hts hown hlk hml hK
  refine g_L (L' := [_, _, _, _]) rfl ?_
  have hpa := hcb.p a ha
  refine g_iconst hx hb d_GV_isReady_0 k_iconst_0 ?_
  refine g_istore_n (L' := [_, _, _, _]) hx hb d_GV_isReady_1 rfl (Nat.le_of_ble_eq_true rfl) rfl ?_
  refine g_loop 4 (fun q => gw ad ct V) (fun q => [some (.ref (ad 0)), some (.ref (ad (5 + 8 * a))), some (.int (nI com)), some (.int (nI q))]) (fun q => ∀ j, j < q → com / 2 ^ j % 2 = 1 → V (5 + 8 * a + 2) j / 2 ^ (V 4 (V (5 + 8 * a) 5 * 4 + j)) % 2 = 1) 0 (by omega) (fun j hj => absurd hj (Nat.not_lt_zero j)) rfl rfl ?_
  intro q hq0_q hqE_q hI_q ih_q
  try dsimp only
  refine g_iload_n hx hb d_GV_isReady_2 rfl rfl ?_
  refine g_iconst hx hb d_GV_isReady_3 k_iconst_4 ?_
  refine n_icmp_ge (tgt := 44) hx hb d_GV_isReady_4 (by decide) (by omega) (by omega) (fun hc1 => ?_) (fun hc1 => ?_)
  · refine g_iconst hx hb d_GV_isReady_44 k_iconst_1 ?_
    exact g_zret hx hb hr hlk (by decide +kernel) d_GV_isReady_45 (⟨by rw [bC_t (show crd V a com from fun j hj hb => hI_q j (by omega) hb)], rfl⟩)
  · have hq : q < 4 := by omega
    have hst := hcb.t (V (5 + 8 * a) 5 * 4 + q) (by omega)
    have hkc := hcb.kc a q ha hq
    refine g_iload_n hx hb d_GV_isReady_7 rfl rfl ?_
    refine g_iload_n hx hb d_GV_isReady_8 rfl rfl ?_
    refine g_callSi (nn := 2) ⟨hx, hb, hml.trans rfl, hown, hts⟩ (ct_GV_has l D ad ct had _ _ _ (by omega) (by omega)) (mk_S hts t_140 t_141 t_1 t_142 rfl rfl (by decide +kernel) ⟨Nat.le_of_ble_eq_true rfl, Nat.le_of_ble_eq_true rfl⟩) (fun _ h => h) (gK_ok D ct) hK (Nat.le_of_ble_eq_true rfl) ⟨Nat.zero_le _, Nat.zero_le _⟩ rfl rfl d_GV_isReady_9 ?_
    rintro _ _ ⟨rfl, rfl⟩
    refine n_if_eq (tgt := 38) hx hb d_GV_isReady_12 (by decide) (by omega) (fun hbit => ?_) (fun hbit => ?_)
    · refine n_iinc (L' := [_, _, _, _]) hx hb d_GV_isReady_38 rfl rfl ?_
      refine g_goto (tgt := 2) hx hb d_GV_isReady_41 (by decide) ?_
      refine ih_q (by omega) (fun j hj hb => ?_)
      rcases Nat.lt_succ_iff_lt_or_eq.mp hj with z | z
      · exact hI_q j z hb
      · subst z
        omega
    · refine g_aload_n hx hb d_GV_isReady_15 rfl rfl ?_
      refine g_iload_n hx hb d_GV_isReady_16 rfl rfl ?_
      refine g_aload_n hx hb d_GV_isReady_17 rfl rfl ?_
      refine g_get hx hb hts (in_mw in_GV) hown hK.1 w_0 rfl 3 (by decide) (hts _ (List.mem_cons_of_mem _ t_102)) rfl d_GV_isReady_18 ?_
      refine g_aload_n hx hb d_GV_isReady_21 rfl rfl ?_
      refine g_getN hx hb hts (in_mw in_PS) hown hK.1 (w_P ha) rfl 5 (by decide) (nst_use hK nw_31 _) rfl d_GV_isReady_22 ?_
      refine g_iload_n hx hb d_GV_isReady_25 rfl rfl ?_
      refine g_callSi (nn := 2) ⟨hx, hb, hml.trans rfl, hown, hts⟩ (ct_GV_startIndex l D ad ct had _ _ _) (mk_S hts t_169 t_170 t_1 t_171 rfl rfl (by decide +kernel) ⟨Nat.le_of_ble_eq_true rfl, Nat.le_of_ble_eq_true rfl⟩) (fun _ h => h) (gK_ok D ct) hK (Nat.le_of_ble_eq_true rfl) ⟨Nat.zero_le _, Nat.zero_le _⟩ rfl rfl d_GV_isReady_26 ?_
      rintro _ _ ⟨rfl, rfl⟩
      refine g_iald hx hb hK.1 w_4 0 rfl (show _ < 64 by omega) (by decide) rfl d_GV_isReady_29 ?_
      refine g_callVNi (C := "GroupViews$ProcessState") (nn := 2) ⟨hx, hb, hml.trans rfl, hown, hts⟩ (ct_PS_knowsSync l D ad ct had _ _ _ _ ha (by omega) (by omega) (by omega)) (mk_VN hK hts nw_229 t_231 ts_PS_knowsSync t_2 t_232 rfl rfl (by decide +kernel) ⟨Nat.le_of_ble_eq_true rfl, Nat.le_of_ble_eq_true rfl⟩) hK.1 rfl (w_P ha) rfl (fun _ h => h) (gK_ok D ct) hK (Nat.le_of_ble_eq_true rfl) ⟨Nat.zero_le _, Nat.zero_le _⟩ rfl rfl d_GV_isReady_30 ?_
      rintro _ _ ⟨rfl, rfl⟩
      refine n_if_ne (tgt := 38) hx hb d_GV_isReady_33 (by decide) (by omega) (fun hkn => ?_) (fun hkn => ?_)
      · refine n_iinc (L' := [_, _, _, _]) hx hb d_GV_isReady_38 rfl rfl ?_
        refine g_goto (tgt := 2) hx hb d_GV_isReady_41 (by decide) ?_
        refine ih_q (by omega) (fun j hj hb => ?_)
        rcases Nat.lt_succ_iff_lt_or_eq.mp hj with z | z
        · exact hI_q j z hb
        · subst z
          omega
      · refine g_iconst hx hb d_GV_isReady_36 k_iconst_0 ?_
        exact g_zret hx hb hr hlk (by decide +kernel) d_GV_isReady_37 (⟨by rw [bC_f (show ¬ crd V a com from fun z => by have := z q hq (by omega); omega)], rfl⟩)
set_option maxRecDepth 100000 in
set_option maxHeartbeats 4000000 in
theorem ct_GV_companionsAmong (l : Launch) (D : va_G) (ad : Nat → Nat) (ct : Nat → ClassId) (had : adOk ad) (V : VV) (a com : Nat) (ha : a < 4) (hcm : com < 16) (hcb : CB V) : CTi l y_GV_companionsAmong (mw y_GV_companionsAmong c_GV_companionsAmong 6 (some .int)) { frames := 1, cells := 0, slots := 0, locals := 21 } (gK D ct) D vcl (gA ad) [.ref (ad 0), .ref (ad (5 + 8 * a)), .int (nI com)] (gw ad ct V) (fun r w => r = nI (cco V a com 4) ∧ w = gw ad ct V) := by
  refine ct_i (by decide) rfl rfl (Nat.le_of_ble_eq_true rfl) ?_
  intro pg en sx mx blw mth cdx hx hb hr hts hown hlk hml hK
  refine g_L (L' := [_, _, _, _, _, _]) rfl ?_
  have hpa := hcb.p a ha
  refine g_iconst hx hb d_GV_companionsAmong_0 k_iconst_0 ?_
  refine g_istore_n (L' := [_, _, _, _, _, _]) hx hb d_GV_companionsAmong_1 rfl (Nat.le_of_ble_eq_true rfl) rfl ?_
  refine g_iconst hx hb d_GV_companionsAmong_2 k_iconst_0 ?_
  refine g_istore (L' := [_, _, _, _, _, _]) hx hb d_GV_companionsAmong_3 (Nat.le_of_ble_eq_true rfl) rfl ?_
  refine g_loop 4 (fun q => gw ad ct V) (fun q => [some (.ref (ad 0)), some (.ref (ad (5 + 8 * a))), some (.int (nI com)), some (.int (nI (cco V a com q))), some (.int (nI q)), none]) (fun q => True) 0 (by omega) trivial rfl rfl ?_
  intro q hq0_q hqE_q hI_q ih_q
  try dsimp only
  refine g_iload hx hb d_GV_companionsAmong_5 rfl ?_
  refine g_iconst hx hb d_GV_companionsAmong_7 k_iconst_4 ?_
  refine n_icmp_ge (tgt := 69) hx hb d_GV_companionsAmong_8 (by decide) (by omega) (by omega) (fun hc1 => ?_) (fun hc1 => ?_)
  · have hq4 : q = 4 := by omega
    subst hq4
    refine g_iload_n hx hb d_GV_companionsAmong_69 rfl rfl ?_
    exact g_iret hx hb hr hlk d_GV_companionsAmong_70 (⟨rfl, rfl⟩)
  · have hq : q < 4 := by omega
    have hst := hcb.t (V (5 + 8 * a) 5 * 4 + q) (by omega)
    have hcv5 := hcb.cv q (V 4 (V (5 + 8 * a) 5 * 4 + q)) hq (by omega)
    have hco := cco_lt (X := V) (p := a) (com := com) q (by omega)
    refine g_aload_n hx hb d_GV_companionsAmong_11 rfl rfl ?_
    refine g_get hx hb hts (in_mw in_GV) hown hK.1 w_0 rfl 3 (by decide) (hts _ (List.mem_cons_of_mem _ t_102)) rfl d_GV_companionsAmong_12 ?_
    refine g_aload_n hx hb d_GV_companionsAmong_15 rfl rfl ?_
    refine g_getN hx hb hts (in_mw in_PS) hown hK.1 (w_P ha) rfl 5 (by decide) (nst_use hK nw_31 _) rfl d_GV_companionsAmong_16 ?_
    refine g_iload hx hb d_GV_companionsAmong_19 rfl ?_
    refine g_callSi (nn := 2) ⟨hx, hb, hml.trans rfl, hown, hts⟩ (ct_GV_startIndex l D ad ct had _ _ _) (mk_S hts t_169 t_170 t_1 t_171 rfl rfl (by decide +kernel) ⟨Nat.le_of_ble_eq_true rfl, Nat.le_of_ble_eq_true rfl⟩) (fun _ h => h) (gK_ok D ct) hK (Nat.le_of_ble_eq_true rfl) ⟨Nat.zero_le _, Nat.zero_le _⟩ rfl rfl d_GV_companionsAmong_21 ?_
    rintro _ _ ⟨rfl, rfl⟩
    refine g_iald hx hb hK.1 w_4 0 rfl (show _ < 64 by omega) (by decide) rfl d_GV_companionsAmong_24 ?_
    refine g_istore (L' := [_, _, _, _, _, _]) hx hb d_GV_companionsAmong_25 (Nat.le_of_ble_eq_true rfl) rfl ?_
    refine g_iload_n hx hb d_GV_companionsAmong_27 rfl rfl ?_
    refine g_iload hx hb d_GV_companionsAmong_28 rfl ?_
    refine g_callSi (nn := 2) ⟨hx, hb, hml.trans rfl, hown, hts⟩ (ct_GV_has l D ad ct had _ _ _ (by omega) (by omega)) (mk_S hts t_140 t_141 t_1 t_142 rfl rfl (by decide +kernel) ⟨Nat.le_of_ble_eq_true rfl, Nat.le_of_ble_eq_true rfl⟩) (fun _ h => h) (gK_ok D ct) hK (Nat.le_of_ble_eq_true rfl) ⟨Nat.zero_le _, Nat.zero_le _⟩ rfl rfl d_GV_companionsAmong_30 ?_
    rintro _ _ ⟨rfl, rfl⟩
    refine n_if_eq (tgt := 63) hx hb d_GV_companionsAmong_33 (by decide) (by omega) (fun hbit => ?_) (fun hbit => ?_)
    · refine n_iinc (L' := [_, _, _, _, _, _]) hx hb d_GV_companionsAmong_63 rfl rfl ?_
      refine g_goto (tgt := 5) hx hb d_GV_companionsAmong_66 (by decide) ?_
      refine g_sub (L' := [_, _, _, _, _, none]) ⟨Or.inr rfl, Or.inr rfl, Or.inr rfl, Or.inr rfl, Or.inr rfl, Or.inl rfl, trivial⟩ ?_
      exact (show cco V a com (q + 1) = _ from by rw [cco, if_neg (fun z => by omega)]) ▸ ih_q (by omega) trivial
    · refine g_aload_n hx hb d_GV_companionsAmong_36 rfl rfl ?_
      refine g_get hx hb hts (in_mw in_GV) hown hK.1 w_0 rfl 0 (by decide) (hts _ (List.mem_cons_of_mem _ t_99)) rfl d_GV_companionsAmong_37 ?_
      refine g_iload hx hb d_GV_companionsAmong_40 rfl ?_
      refine g_aald hx hb hK.1 w_1 2 rfl hq (by decide) (fP hq) d_GV_companionsAmong_42 ?_
      refine g_getN hx hb hts (in_mw in_PS) hown hK.1 (w_P hq) rfl 13 (by decide) (nst_use hK nw_45 _) rfl d_GV_companionsAmong_43 ?_
      refine g_iload hx hb d_GV_companionsAmong_46 rfl ?_
      refine g_iald hx hb hK.1 (w_Pa (k := 5) hq (by decide) (by decide)) 0 rfl (show _ < 16 by omega) (by decide) rfl d_GV_companionsAmong_48 ?_
      refine g_aload_n hx hb d_GV_companionsAmong_49 rfl rfl ?_
      refine g_getN hx hb hts (in_mw in_PS) hown hK.1 (w_P ha) rfl 0 (by decide) (nst_use hK nw_24 _) rfl d_GV_companionsAmong_50 ?_
      refine n_icmp_ne (tgt := 63) hx hb d_GV_companionsAmong_53 (by decide) (by omega) (by omega) (fun hcv => ?_) (fun hcv => ?_)
      · refine n_iinc (L' := [_, _, _, _, _, _]) hx hb d_GV_companionsAmong_63 rfl rfl ?_
        refine g_goto (tgt := 5) hx hb d_GV_companionsAmong_66 (by decide) ?_
        refine g_sub (L' := [_, _, _, _, _, none]) ⟨Or.inr rfl, Or.inr rfl, Or.inr rfl, Or.inr rfl, Or.inr rfl, Or.inl rfl, trivial⟩ ?_
        exact (show cco V a com (q + 1) = _ from by rw [cco, if_neg (fun z => hcv z.2)]) ▸ ih_q (by omega) trivial
      · refine g_iload_n hx hb d_GV_companionsAmong_56 rfl rfl ?_
        refine g_iconst hx hb d_GV_companionsAmong_57 k_iconst_1 ?_
        refine g_iload hx hb d_GV_companionsAmong_58 rfl ?_
        refine n_ishl hx hb d_GV_companionsAmong_60 (by omega) (q_p32 (by omega)) ?_
        refine g_val (show nI (1 * 2 ^ q) = nI (2 ^ q) from congrArg nI (Nat.one_mul _)) ?_
        refine n_ior hx hb d_GV_companionsAmong_61 ?_
        refine g_istore_n (L' := [_, _, _, _, _, _]) hx hb d_GV_companionsAmong_62 rfl (Nat.le_of_ble_eq_true rfl) rfl ?_
        refine n_iinc (L' := [_, _, _, _, _, _]) hx hb d_GV_companionsAmong_63 rfl rfl ?_
        refine g_goto (tgt := 5) hx hb d_GV_companionsAmong_66 (by decide) ?_
        refine g_sub (L' := [_, _, _, _, _, none]) ⟨Or.inr rfl, Or.inr rfl, Or.inr rfl, Or.inr rfl, Or.inr rfl, Or.inl rfl, trivial⟩ ?_
        exact (show cco V a com (q + 1) = _ from by rw [cco, if_pos ⟨by omega, hcv⟩]) ▸ ih_q (by omega) trivial
set_option maxRecDepth 100000 in
set_option maxHeartbeats 4000000 in
theorem ct_GV_limitsOf (l : Launch) (D : va_G) (ad : Nat → Nat) (ct : Nat → ClassId) (had : adOk ad) (V : VV) (v cs : Nat) (hv : v < 16) (hcs : cs < 16) (hcb : CB V) : CTi l y_GV_limitsOf (mw y_GV_limitsOf c_GV_limitsOf 5 (some .int)) { frames := 2, cells := 0, slots := 0, locals := 55 } (gK D ct) D vcl (gA ad) [.ref (ad 0), .int (nI v), .int (nI cs)] (gw ad ct V) (fun r w => r = nI (cli V v cs 4) ∧ w = gw ad ct V) := by
  refine ct_i (by decide) rfl rfl (Nat.le_of_ble_eq_true rfl) ?_
  intro pg en sx mx blw mth cdx hx hb hr hts hown hlk hml hK
  refine g_L (L' := [_, _, _, _, _]) rfl ?_
  refine g_iconst hx hb d_GV_limitsOf_0 k_iconst_0 ?_
  refine g_istore_n (L' := [_, _, _, _, _]) hx hb d_GV_limitsOf_1 rfl (Nat.le_of_ble_eq_true rfl) rfl ?_
  refine g_iconst hx hb d_GV_limitsOf_2 k_iconst_0 ?_
  refine g_istore (L' := [_, _, _, _, _]) hx hb d_GV_limitsOf_3 (Nat.le_of_ble_eq_true rfl) rfl ?_
  refine g_loop 4 (fun q => gw ad ct V) (fun q => [some (.ref (ad 0)), some (.int (nI v)), some (.int (nI cs)), some (.int (nI (cli V v cs q))), some (.int (nI q))]) (fun q => True) 0 (by omega) trivial rfl rfl ?_
  intro q hq0_q hqE_q hI_q ih_q
  try dsimp only
  refine g_iload hx hb d_GV_limitsOf_5 rfl ?_
  refine g_iconst hx hb d_GV_limitsOf_7 k_iconst_4 ?_
  refine n_icmp_ge (tgt := 53) hx hb d_GV_limitsOf_8 (by decide) (by omega) (by omega) (fun hc1 => ?_) (fun hc1 => ?_)
  · have hq4 : q = 4 := by omega
    subst hq4
    refine g_iload_n hx hb d_GV_limitsOf_53 rfl rfl ?_
    exact g_iret hx hb hr hlk d_GV_limitsOf_54 (⟨rfl, rfl⟩)
  · have hq : q < 4 := by omega
    have hst := hcb.t (v * 4 + q) (by omega)
    refine g_iload_n hx hb d_GV_limitsOf_11 rfl rfl ?_
    refine g_iload hx hb d_GV_limitsOf_12 rfl ?_
    refine g_callSi (nn := 2) ⟨hx, hb, hml.trans rfl, hown, hts⟩ (ct_GV_has l D ad ct had _ _ _ (by omega) (by omega)) (mk_S hts t_140 t_141 t_1 t_142 rfl rfl (by decide +kernel) ⟨Nat.le_of_ble_eq_true rfl, Nat.le_of_ble_eq_true rfl⟩) (fun _ h => h) (gK_ok D ct) hK (Nat.le_of_ble_eq_true rfl) ⟨Nat.zero_le _, Nat.zero_le _⟩ rfl rfl d_GV_limitsOf_14 ?_
    rintro _ _ ⟨rfl, rfl⟩
    refine n_if_eq (tgt := 47) hx hb d_GV_limitsOf_17 (by decide) (by omega) (fun hbit => ?_) (fun hbit => ?_)
    · refine n_iinc (L' := [_, _, _, _, _]) hx hb d_GV_limitsOf_47 rfl rfl ?_
      refine g_goto (tgt := 5) hx hb d_GV_limitsOf_50 (by decide) ?_
      exact (show cli V v cs (q + 1) = _ from by rw [cli, if_neg (by omega)]) ▸ ih_q (by omega) trivial
    · refine g_iload_n hx hb d_GV_limitsOf_20 rfl rfl ?_
      refine g_aload_n hx hb d_GV_limitsOf_21 rfl rfl ?_
      refine g_get hx hb hts (in_mw in_GV) hown hK.1 w_0 rfl 0 (by decide) (hts _ (List.mem_cons_of_mem _ t_99)) rfl d_GV_limitsOf_22 ?_
      refine g_iload hx hb d_GV_limitsOf_25 rfl ?_
      refine g_aald hx hb hK.1 w_1 2 rfl hq (by decide) (fP hq) d_GV_limitsOf_27 ?_
      refine g_getN hx hb hts (in_mw in_PS) hown hK.1 (w_P hq) rfl 14 (by decide) (nst_use hK nw_47 _) rfl d_GV_limitsOf_28 ?_
      refine g_aload_n hx hb d_GV_limitsOf_31 rfl rfl ?_
      refine g_get hx hb hts (in_mw in_GV) hown hK.1 w_0 rfl 3 (by decide) (hts _ (List.mem_cons_of_mem _ t_102)) rfl d_GV_limitsOf_32 ?_
      refine g_iload_n hx hb d_GV_limitsOf_35 rfl rfl ?_
      refine g_iload hx hb d_GV_limitsOf_36 rfl ?_
      refine g_callSi (nn := 2) ⟨hx, hb, hml.trans rfl, hown, hts⟩ (ct_GV_startIndex l D ad ct had _ _ _) (mk_S hts t_169 t_170 t_1 t_171 rfl rfl (by decide +kernel) ⟨Nat.le_of_ble_eq_true rfl, Nat.le_of_ble_eq_true rfl⟩) (fun _ h => h) (gK_ok D ct) hK (Nat.le_of_ble_eq_true rfl) ⟨Nat.zero_le _, Nat.zero_le _⟩ rfl rfl d_GV_limitsOf_38 ?_
      rintro _ _ ⟨rfl, rfl⟩
      refine g_iald hx hb hK.1 w_4 0 rfl (show _ < 64 by omega) (by decide) rfl d_GV_limitsOf_41 ?_
      refine g_iald hx hb hK.1 (w_Pa (k := 6) hq (by decide) (by decide)) 0 rfl (show _ < 16 by omega) (by decide) rfl d_GV_limitsOf_42 ?_
      refine g_callSi (nn := 2) ⟨hx, hb, hml.trans rfl, hown, hts⟩ (ct_GV_greatestOfEach l D ad ct had _ _ _ (cli_pkd hcb hv q (by omega)) (hcb.cu q _ hq (by omega))) (mk_S hts t_241 t_242 t_1 t_243 rfl rfl (by decide +kernel) ⟨Nat.le_of_ble_eq_true rfl, Nat.le_of_ble_eq_true rfl⟩) (fun _ h => h) (gK_ok D ct) hK (Nat.le_of_ble_eq_true rfl) ⟨Nat.zero_le _, Nat.zero_le _⟩ rfl rfl d_GV_limitsOf_43 ?_
      rintro _ _ ⟨rfl, rfl⟩
      refine g_istore_n (L' := [_, _, _, _, _]) hx hb d_GV_limitsOf_46 rfl (Nat.le_of_ble_eq_true rfl) rfl ?_
      refine n_iinc (L' := [_, _, _, _, _]) hx hb d_GV_limitsOf_47 rfl rfl ?_
      refine g_goto (tgt := 5) hx hb d_GV_limitsOf_50 (by decide) ?_
      exact (show cli V v cs (q + 1) = _ from by rw [cli, if_pos (by omega)]) ▸ ih_q (by omega) trivial
end
section
theorem q_nm1 {n : Nat} (h : n < 2 ^ 31) : ¬ nI n = -1 := fun z => by
  have := nI_pos h
  rw [z] at this
  exact this (by decide)
theorem n0_eq : nI 0 = 0 := by decide +kernel
theorem n1_eq : nI 1 = 1 := by decide +kernel
theorem n2_eq : nI 2 = 2 := by decide +kernel
theorem cfo_ne {X : VV} {set n c k : Nat} (h : c ≠ 4) (h2 : ∀ j, j < 4 → c ≠ 5 + 8 * j) : ∀ {q : Nat}, q ≤ 4 → cfo X set n q c k = X c k
  | 0, _ => rfl
  | q + 1, hq => by
    rw [cfo]
    split
    · rw [pt_ne (h2 q (by omega)), pt_ne h, cfo_ne h h2 (by omega)]
    · exact cfo_ne h h2 (by omega)
set_option maxRecDepth 100000 in
set_option maxHeartbeats 4000000 in
theorem ct_GV_send (l : Launch) (D : va_G) (ad : Nat → Nat) (ct : Nat → ClassId) (had : adOk ad) (V : VV) (n x : Nat) (h1 : n < 2 ^ 32) (hcb : CB V) : CTi l y_GV_send (mw y_GV_send c_GV_send 5 (some .int)) { frames := 2, cells := 0, slots := 0, locals := 45 } (gK D ct) D vcl (gA ad) [.ref (ad 0), .int (nI n), .int (nI x)] (gw ad ct V) (fun r w => (¬ n < 4 ∧ r = -1 ∧ w = gw ad ct V) ∨ (n < 4 ∧ r = (cSend V n x).1 ∧ w = gw ad ct (cSend V n x).2)) := by
  refine ct_i (by decide) rfl rfl (Nat.le_of_ble_eq_true rfl) ?_
  intro pg en sx mx blw mth cdx hx hb hr hts hown hlk hml hK
  refine g_L (L' := [_, _, _, _, _]) rfl ?_
  refine g_iload_n hx hb d_GV_send_0 rfl rfl ?_
  refine g_callSi (nn := 1) ⟨hx, hb, hml.trans rfl, hown, hts⟩ (ct_GV_isProcess l D ad ct had _ _ (by omega)) (mk_S hts t_119 t_120 t_1 t_121 rfl rfl (by decide +kernel) ⟨Nat.le_of_ble_eq_true rfl, Nat.le_of_ble_eq_true rfl⟩) (fun _ h => h) (gK_ok D ct) hK (Nat.le_of_ble_eq_true rfl) ⟨Nat.zero_le _, Nat.zero_le _⟩ rfl rfl d_GV_send_1 ?_
  rintro _ _ ⟨rfl, rfl⟩
  refine n_if_ne (tgt := 9) hx hb d_GV_send_4 (by decide) bN_lt (fun hn => ?_) (fun hn => ?_)
  · have hn := bN_n0.mp hn
    have hpa := hcb.p n hn
    have hde := hpa.2.2.2.2.2.2.2.2
    refine g_aload_n hx hb d_GV_send_9 rfl rfl ?_
    refine g_get hx hb hts (in_mw in_GV) hown hK.1 w_0 rfl 0 (by decide) (hts _ (List.mem_cons_of_mem _ t_99)) rfl d_GV_send_10 ?_
    refine g_iload_n hx hb d_GV_send_13 rfl rfl ?_
    refine g_aald hx hb hK.1 w_1 2 rfl hn (by decide) (fP hn) d_GV_send_14 ?_
    refine g_astore_n (L' := [_, _, _, _, _]) hx hb d_GV_send_15 rfl (Nat.le_of_ble_eq_true rfl) rfl ?_
    refine g_aload_n hx hb d_GV_send_16 rfl rfl ?_
    refine g_getN hx hb hts (in_mw in_PS) hown hK.1 (w_P hn) rfl 4 (by decide) (nst_use hK nw_29 _) rfl d_GV_send_17 ?_
    refine n_if_eq (tgt := 26) hx hb d_GV_send_20 (by decide) (by omega) (fun hbl => ?_) (fun hbl => ?_)
    · refine g_aload_n hx hb d_GV_send_26 rfl rfl ?_
      refine g_getN hx hb hts (in_mw in_PS) hown hK.1 (w_P hn) rfl 7 (by decide) (nst_use hK nw_34 _) rfl d_GV_send_27 ?_
      refine g_iconst hx hb d_GV_send_30 k_iconst_4 ?_
      refine n_icmp_lt (tgt := 37) hx hb d_GV_send_31 (by decide) (by omega) (by omega) (fun hse => ?_) (fun hse => ?_)
      · refine g_aload_n hx hb d_GV_send_37 rfl rfl ?_
        refine g_dup hx hb d_GV_send_38 rfl ?_
        refine g_getN hx hb hts (in_mw in_PS) hown hK.1 (w_P hn) rfl 7 (by decide) (nst_use hK nw_34 _) rfl d_GV_send_39 ?_
        refine g_iconst hx hb d_GV_send_42 k_iconst_1 ?_
        refine n_iadd hx hb d_GV_send_43 ?_
        refine g_putN (ty := .int) hx hb hts (in_mw in_PS) ty_PS tyo_PS nm_PS hown hK.1 (gw_D had) (w_P hn) rfl 7 (by decide) (nst_use hK nw_34 _) rfl (by decide +kernel) rfl rfl (Nat.le_of_ble_eq_true rfl) d_GV_send_44 (s_P hn 7 _ (by decide)) ?_
        refine g_aload_n hx hb d_GV_send_47 rfl rfl ?_
        refine g_getN hx hb hts (in_mw in_PS) hown hK.1 (w_P hn) rfl 0 (by decide) (nst_use hK nw_24 _) rfl d_GV_send_48 ?_
        refine g_val (show nI _ = nI (V (5 + 8 * n) 0) from congrArg nI (by simp (disch := omega) only [pt_eq, pt_ne, pt_nk])) ?_
        refine g_aload_n hx hb d_GV_send_51 rfl rfl ?_
        refine g_getN hx hb hts (in_mw in_PS) hown hK.1 (w_P hn) rfl 7 (by decide) (nst_use hK nw_34 _) rfl d_GV_send_52 ?_
        refine g_val (show nI _ = nI ((V (5 + 8 * n) 7) + 1) from congrArg nI (by simp (disch := omega) only [pt_eq, pt_ne, pt_nk])) ?_
        refine g_callSi (nn := 2) ⟨hx, hb, hml.trans rfl, hown, hts⟩ (ct_GV_slotOf l D ad ct had _ _ _ (by omega)) (mk_S hts t_122 t_123 t_1 t_124 rfl rfl (by decide +kernel) ⟨Nat.le_of_ble_eq_true rfl, Nat.le_of_ble_eq_true rfl⟩) (fun _ h => h) (gK_ok D ct) hK (Nat.le_of_ble_eq_true rfl) ⟨Nat.zero_le _, Nat.zero_le _⟩ rfl rfl d_GV_send_55 ?_
        rintro _ _ ⟨rfl, rfl⟩
        refine g_val (show nI _ = nI (V (5 + 8 * n) 0 * 4 + V (5 + 8 * n) 7) from congrArg nI (by omega)) ?_
        refine g_istore (L' := [_, _, _, _, _]) hx hb d_GV_send_58 (Nat.le_of_ble_eq_true rfl) rfl ?_
        refine g_aload_n hx hb d_GV_send_60 rfl rfl ?_
        refine g_getN hx hb hts (in_mw in_PS) hown hK.1 (w_P hn) rfl 11 (by decide) (nst_use hK nw_41 _) rfl d_GV_send_61 ?_
        refine g_iload hx hb d_GV_send_64 rfl ?_
        refine g_iload_n hx hb d_GV_send_66 rfl rfl ?_
        refine g_iast hx hb hK.1 (gw_D had) (w_Pa (k := 3) hn (by decide) (by decide)) 0 rfl (show _ < 64 by omega) (by decide) d_GV_send_67 (s_Pa (k := 3) hn (by decide) (by decide) _ _) ?_
        refine g_aload_n hx hb d_GV_send_68 rfl rfl ?_
        refine g_getN hx hb hts (in_mw in_PS) hown hK.1 (w_P hn) rfl 12 (by decide) (nst_use hK nw_43 _) rfl d_GV_send_69 ?_
        refine g_iload hx hb d_GV_send_72 rfl ?_
        refine g_aload_n hx hb d_GV_send_74 rfl rfl ?_
        refine g_getN hx hb hts (in_mw in_PS) hown hK.1 (w_P hn) rfl 8 (by decide) (nst_use hK nw_36 _) rfl d_GV_send_75 ?_
        refine g_val (show nI _ = nI (V (5 + 8 * n) 8) from congrArg nI (by simp (disch := omega) only [pt_eq, pt_ne, pt_nk])) ?_
        refine g_iload_n hx hb d_GV_send_78 rfl rfl ?_
        refine g_iconst hx hb d_GV_send_79 k_iconst_0 ?_
        refine g_callSi (nn := 3) ⟨hx, hb, hml.trans rfl, hown, hts⟩ (ct_GV_withCount l D ad ct had _ _ _ _ hde hn (by omega)) (mk_S hts t_125 t_126 t_1 t_127 rfl rfl (by decide +kernel) ⟨Nat.le_of_ble_eq_true rfl, Nat.le_of_ble_eq_true rfl⟩) (fun _ h => h) (gK_ok D ct) hK (Nat.le_of_ble_eq_true rfl) ⟨Nat.zero_le _, Nat.zero_le _⟩ rfl rfl d_GV_send_80 ?_
        rintro _ _ ⟨rfl, rfl⟩
        refine g_iast hx hb hK.1 (gw_D had) (w_Pa (k := 4) hn (by decide) (by decide)) 0 rfl (show _ < 64 by omega) (by decide) d_GV_send_83 (s_Pa (k := 4) hn (by decide) (by decide) _ _) ?_
        refine g_aload_n hx hb d_GV_send_84 rfl rfl ?_
        refine g_aload_n hx hb d_GV_send_85 rfl rfl ?_
        refine g_getN hx hb hts (in_mw in_PS) hown hK.1 (w_P hn) rfl 0 (by decide) (nst_use hK nw_24 _) rfl d_GV_send_86 ?_
        refine g_val (show nI _ = nI (V (5 + 8 * n) 0) from congrArg nI (by simp (disch := omega) only [pt_eq, pt_ne, pt_nk])) ?_
        refine g_iload_n hx hb d_GV_send_89 rfl rfl ?_
        refine g_aload_n hx hb d_GV_send_90 rfl rfl ?_
        refine g_getN hx hb hts (in_mw in_PS) hown hK.1 (w_P hn) rfl 7 (by decide) (nst_use hK nw_34 _) rfl d_GV_send_91 ?_
        refine g_val (show nI _ = nI ((V (5 + 8 * n) 7) + 1) from congrArg nI (by simp (disch := omega) only [pt_eq, pt_ne, pt_nk])) ?_
        refine g_callVNv (C := "GroupViews$ProcessState") (nn := 3) ⟨hx, hb, hml.trans rfl, hown, hts⟩ (ct_PS_learnMessage l D ad ct had _ _ _ _ _ hn (by omega) (by omega)) (mk_VN hK hts nw_128 t_130 ts_PS_learnMessage t_2 t_131 rfl rfl (by decide +kernel) ⟨Nat.le_of_ble_eq_true rfl, Nat.le_of_ble_eq_true rfl⟩) hK.1 rfl (w_P hn) rfl (fun _ h => h) (gK_ok D ct) hK (Nat.le_of_ble_eq_true rfl) ⟨Nat.zero_le _, Nat.zero_le _⟩ rfl rfl d_GV_send_94 ?_
        rintro _ rfl
        refine g_aload_n hx hb d_GV_send_97 rfl rfl ?_
        refine g_iload_n hx hb d_GV_send_98 rfl rfl ?_
        refine g_aload_n hx hb d_GV_send_99 rfl rfl ?_
        refine g_iload_n hx hb d_GV_send_100 rfl rfl ?_
        refine g_callVi (C := "GroupViews") (nn := 1) ⟨hx, hb, hml.trans rfl, hown, hts⟩ (ct_GV_presentSet l D ad ct had _ _ hn (by unfold cln; simp (disch := omega) only [pt_eq, pt_ne, pt_nk]; omega)) (mk_V hts t_132 t_134 ts_GV_presentSet t_1 t_135 rfl rfl (by decide +kernel) ⟨Nat.le_of_ble_eq_true rfl, Nat.le_of_ble_eq_true rfl⟩) hK.1 rfl w_0 rfl (fun _ h => h) (gK_ok D ct) hK (Nat.le_of_ble_eq_true rfl) ⟨Nat.zero_le _, Nat.zero_le _⟩ rfl rfl d_GV_send_101 ?_
        rintro _ _ ⟨rfl, rfl⟩
        refine g_val (show nI _ = nI (cps V n) from congrArg nI (by unfold cps cln; simp (disch := omega) only [pt_eq, pt_ne, pt_nk])) ?_
        refine g_iload hx hb d_GV_send_104 rfl ?_
        refine g_callVv (C := "GroupViews") (nn := 3) ⟨hx, hb, hml.trans rfl, hown, hts⟩ (ct_GV_putToOthers l D ad ct had _ _ _ _ hn (Nat.lt_trans (cps_lt hcb hn) (by decide)) (fun i hi => by unfold cln; simp (disch := omega) only [pt_eq, pt_ne, pt_nk]; exact (hcb.ln i hi).2.1)) (mk_V hts t_136 t_138 ts_GV_putToOthers t_1 t_139 rfl rfl (by decide +kernel) ⟨Nat.le_of_ble_eq_true rfl, Nat.le_of_ble_eq_true rfl⟩) hK.1 rfl w_0 rfl (fun _ h => h) (gK_ok D ct) hK (Nat.le_of_ble_eq_true rfl) ⟨Nat.zero_le _, Nat.zero_le _⟩ rfl rfl d_GV_send_106 ?_
        rintro _ rfl
        refine g_aload_n hx hb d_GV_send_109 rfl rfl ?_
        refine g_getN hx hb hts (in_mw in_PS) hown hK.1 (w_P hn) rfl 7 (by decide) (nst_use hK nw_34 _) rfl d_GV_send_110 ?_
        refine g_val (show nI _ = nI (V (5 + 8 * n) 7 + 1) from congrArg nI (by rw [cpo_ne (by omega) hn 4 (by decide)]; unfold cln; simp (disch := omega) only [pt_eq, pt_ne, pt_nk])) ?_
        have hS : cSend V n x = (nI (V (5 + 8 * n) 7 + 1), cpo (cln (pt (pt (pt V (5 + 8 * n) 7 (V (5 + 8 * n) 7 + 1)) (5 + 8 * n + 3) (V (5 + 8 * n) 0 * 4 + V (5 + 8 * n) 7) x) (5 + 8 * n + 4) (V (5 + 8 * n) 0 * 4 + V (5 + 8 * n) 7) (wc (V (5 + 8 * n) 8) n 0)) n (V (5 + 8 * n) 0) n (V (5 + 8 * n) 7 + 1)) n (cps V n) (V (5 + 8 * n) 0 * 4 + V (5 + 8 * n) 7) 4) := by unfold cSend; rw [if_neg (not_not_intro hbl), if_neg (by omega)]
        exact g_iret hx hb hr hlk d_GV_send_113 (Or.inr ⟨hn, by rw [hS] <;> first | exact n0_eq | exact n1_eq | exact n2_eq, by rw [hS]⟩)
      · refine g_bipush hx hb d_GV_send_34 k_bipush_m3 ?_
        have hS : cSend V n x = (-3, V) := by unfold cSend; rw [if_neg (not_not_intro hbl), if_pos hse]
        exact g_iret hx hb hr hlk d_GV_send_36 (Or.inr ⟨hn, by rw [hS] <;> first | exact n0_eq | exact n1_eq | exact n2_eq, by rw [hS]⟩)
    · refine g_bipush hx hb d_GV_send_23 k_bipush_m2 ?_
      have hS : cSend V n x = (-2, V) := by unfold cSend; rw [if_pos hbl]
      exact g_iret hx hb hr hlk d_GV_send_25 (Or.inr ⟨hn, by rw [hS] <;> first | exact n0_eq | exact n1_eq | exact n2_eq, by rw [hS]⟩)
  · have hn := bN_0.mp hn
    refine g_iconst hx hb d_GV_send_7 k_iconst_m1 ?_
    exact g_iret hx hb hr hlk d_GV_send_8 (Or.inl ⟨hn, rfl, rfl⟩)
set_option maxRecDepth 100000 in
set_option maxHeartbeats 4000000 in
theorem ct_GV_change (l : Launch) (D : va_G) (ad : Nat → Nat) (ct : Nat → ClassId) (had : adOk ad) (V : VV) (n set : Nat) (h1 : n < 2 ^ 32) (h2 : set < 2 ^ 32) (hcb : CB V) : CTi l y_GV_change (mw y_GV_change c_GV_change 4 (some .int)) { frames := 2, cells := 0, slots := 0, locals := 45 } (gK D ct) D vcl (gA ad) [.ref (ad 0), .int (nI n), .int (nI set)] (gw ad ct V) (fun r w => (¬ n < 4 ∧ r = -1 ∧ w = gw ad ct V) ∨ (n < 4 ∧ r = (cChange V n set).1 ∧ w = gw ad ct (cChange V n set).2)) := by
  refine ct_i (by decide) rfl rfl (Nat.le_of_ble_eq_true rfl) ?_
  intro pg en sx mx blw mth cdx hx hb hr hts hown hlk hml hK
  refine g_L (L' := [_, _, _, _]) rfl ?_
  refine g_iload_n hx hb d_GV_change_0 rfl rfl ?_
  refine g_callSi (nn := 1) ⟨hx, hb, hml.trans rfl, hown, hts⟩ (ct_GV_isProcess l D ad ct had _ _ (by omega)) (mk_S hts t_119 t_120 t_1 t_121 rfl rfl (by decide +kernel) ⟨Nat.le_of_ble_eq_true rfl, Nat.le_of_ble_eq_true rfl⟩) (fun _ h => h) (gK_ok D ct) hK (Nat.le_of_ble_eq_true rfl) ⟨Nat.zero_le _, Nat.zero_le _⟩ rfl rfl d_GV_change_1 ?_
  rintro _ _ ⟨rfl, rfl⟩
  refine n_if_ne (tgt := 9) hx hb d_GV_change_4 (by decide) bN_lt (fun hn => ?_) (fun hn => ?_)
  · have hn := bN_n0.mp hn
    have hpa := hcb.p n hn
    have hde := hpa.2.2.2.2.2.2.2.2
    refine g_iload_n hx hb d_GV_change_9 rfl rfl ?_
    refine g_callSi (nn := 1) ⟨hx, hb, hml.trans rfl, hown, hts⟩ (ct_GV_isNonEmptySet l D ad ct had _ _ (by omega)) (mk_S hts t_154 t_155 t_1 t_156 rfl rfl (by decide +kernel) ⟨Nat.le_of_ble_eq_true rfl, Nat.le_of_ble_eq_true rfl⟩) (fun _ h => h) (gK_ok D ct) hK (Nat.le_of_ble_eq_true rfl) ⟨Nat.zero_le _, Nat.zero_le _⟩ rfl rfl d_GV_change_10 ?_
    rintro _ _ ⟨rfl, rfl⟩
    refine n_if_eq (tgt := 24) hx hb d_GV_change_13 (by decide) bN_lt (fun hne => ?_) (fun hne => ?_)
    · have hne := bN_0.mp hne
      refine g_bipush hx hb d_GV_change_24 k_bipush_m2 ?_
      have hS : cChange V n set = (-2, V) := by unfold cChange; rw [if_pos (fun z => by omega)]
      exact g_iret hx hb hr hlk d_GV_change_26 (Or.inr ⟨hn, by rw [hS] <;> first | exact n0_eq | exact n1_eq | exact n2_eq, by rw [hS]⟩)
    · have hne := bN_n0.mp hne
      refine g_iload_n hx hb d_GV_change_16 rfl rfl ?_
      refine g_iload_n hx hb d_GV_change_17 rfl rfl ?_
      refine g_callSi (nn := 2) ⟨hx, hb, hml.trans rfl, hown, hts⟩ (ct_GV_has l D ad ct had _ _ _ (by omega) (by omega)) (mk_S hts t_140 t_141 t_1 t_142 rfl rfl (by decide +kernel) ⟨Nat.le_of_ble_eq_true rfl, Nat.le_of_ble_eq_true rfl⟩) (fun _ h => h) (gK_ok D ct) hK (Nat.le_of_ble_eq_true rfl) ⟨Nat.zero_le _, Nat.zero_le _⟩ rfl rfl d_GV_change_18 ?_
      rintro _ _ ⟨rfl, rfl⟩
      refine n_if_ne (tgt := 27) hx hb d_GV_change_21 (by decide) (by omega) (fun hbit => ?_) (fun hbit => ?_)
      · refine g_aload_n hx hb d_GV_change_27 rfl rfl ?_
        refine g_get hx hb hts (in_mw in_GV) hown hK.1 w_0 rfl 0 (by decide) (hts _ (List.mem_cons_of_mem _ t_99)) rfl d_GV_change_28 ?_
        refine g_iload_n hx hb d_GV_change_31 rfl rfl ?_
        refine g_aald hx hb hK.1 w_1 2 rfl hn (by decide) (fP hn) d_GV_change_32 ?_
        refine g_astore_n (L' := [_, _, _, _]) hx hb d_GV_change_33 rfl (Nat.le_of_ble_eq_true rfl) rfl ?_
        refine g_aload_n hx hb d_GV_change_34 rfl rfl ?_
        refine g_getN hx hb hts (in_mw in_PS) hown hK.1 (w_P hn) rfl 1 (by decide) (nst_use hK nw_26 _) rfl d_GV_change_35 ?_
        refine g_bipush hx hb d_GV_change_38 k_bipush_15 ?_
        refine n_icmp_lt (tgt := 46) hx hb d_GV_change_40 (by decide) (by omega) (by omega) (fun hch => ?_) (fun hch => ?_)
        · refine g_aload_n hx hb d_GV_change_46 rfl rfl ?_
          refine g_dup hx hb d_GV_change_47 rfl ?_
          refine g_getN hx hb hts (in_mw in_PS) hown hK.1 (w_P hn) rfl 1 (by decide) (nst_use hK nw_26 _) rfl d_GV_change_48 ?_
          refine g_iconst hx hb d_GV_change_51 k_iconst_1 ?_
          refine n_iadd hx hb d_GV_change_52 ?_
          refine g_putN (ty := .int) hx hb hts (in_mw in_PS) ty_PS tyo_PS nm_PS hown hK.1 (gw_D had) (w_P hn) rfl 1 (by decide) (nst_use hK nw_26 _) rfl (by decide +kernel) rfl rfl (Nat.le_of_ble_eq_true rfl) d_GV_change_53 (s_P hn 1 _ (by decide)) ?_
          refine g_aload_n hx hb d_GV_change_56 rfl rfl ?_
          refine g_iload_n hx hb d_GV_change_57 rfl rfl ?_
          refine g_putN (ty := .int) hx hb hts (in_mw in_PS) ty_PS tyo_PS nm_PS hown hK.1 (gw_D had) (w_P hn) rfl 2 (by decide) (nst_use hK nw_27 _) rfl (by decide +kernel) rfl rfl (Nat.le_of_ble_eq_true rfl) d_GV_change_58 (s_P hn 2 _ (by decide)) ?_
          refine g_aload_n hx hb d_GV_change_61 rfl rfl ?_
          refine g_iconst hx hb d_GV_change_62 k_iconst_1 ?_
          refine g_putN (ty := .boolean) hx hb hts (in_mw in_PS) ty_PS tyo_PS nm_PS hown hK.1 (gw_D had) (w_P hn) rfl 4 (by decide) (nst_use hK nw_29 _) rfl (by decide +kernel) (by decide +kernel) rfl (Nat.le_of_ble_eq_true rfl) d_GV_change_63 (s_P hn 4 _ (by decide)) ?_
          refine g_aload_n hx hb d_GV_change_66 rfl rfl ?_
          refine g_iconst hx hb d_GV_change_67 k_iconst_1 ?_
          refine g_putN (ty := .boolean) hx hb hts (in_mw in_PS) ty_PS tyo_PS nm_PS hown hK.1 (gw_D had) (w_P hn) rfl 3 (by decide) (nst_use hK nw_28 _) rfl (by decide +kernel) (by decide +kernel) rfl (Nat.le_of_ble_eq_true rfl) d_GV_change_68 (s_P hn 3 _ (by decide)) ?_
          refine g_aload_n hx hb d_GV_change_71 rfl rfl ?_
          refine g_iconst hx hb d_GV_change_72 k_iconst_0 ?_
          refine g_putN (ty := .int) hx hb hts (in_mw in_PS) ty_PS tyo_PS nm_PS hown hK.1 (gw_D had) (w_P hn) rfl 5 (by decide) (nst_use hK nw_31 _) rfl (by decide +kernel) rfl rfl (Nat.le_of_ble_eq_true rfl) d_GV_change_73 (s_P hn 5 _ (by decide)) ?_
          refine g_aload_n hx hb d_GV_change_76 rfl rfl ?_
          refine g_getN hx hb hts (in_mw in_PS) hown hK.1 (w_P hn) rfl 13 (by decide) (nst_use hK nw_45 _) rfl d_GV_change_77 ?_
          refine g_aload_n hx hb d_GV_change_80 rfl rfl ?_
          refine g_getN hx hb hts (in_mw in_PS) hown hK.1 (w_P hn) rfl 1 (by decide) (nst_use hK nw_26 _) rfl d_GV_change_81 ?_
          refine g_val (show nI _ = nI ((V (5 + 8 * n) 1) + 1) from congrArg nI (by simp (disch := omega) only [pt_eq, pt_ne, pt_nk])) ?_
          refine g_aload_n hx hb d_GV_change_84 rfl rfl ?_
          refine g_getN hx hb hts (in_mw in_PS) hown hK.1 (w_P hn) rfl 0 (by decide) (nst_use hK nw_24 _) rfl d_GV_change_85 ?_
          refine g_val (show nI _ = nI (V (5 + 8 * n) 0) from congrArg nI (by simp (disch := omega) only [pt_eq, pt_ne, pt_nk])) ?_
          refine g_iast hx hb hK.1 (gw_D had) (w_Pa (k := 5) hn (by decide) (by decide)) 0 rfl (show _ < 16 by omega) (by decide) d_GV_change_88 (s_Pa (k := 5) hn (by decide) (by decide) _ _) ?_
          refine g_aload_n hx hb d_GV_change_89 rfl rfl ?_
          refine g_getN hx hb hts (in_mw in_PS) hown hK.1 (w_P hn) rfl 14 (by decide) (nst_use hK nw_47 _) rfl d_GV_change_90 ?_
          refine g_aload_n hx hb d_GV_change_93 rfl rfl ?_
          refine g_getN hx hb hts (in_mw in_PS) hown hK.1 (w_P hn) rfl 1 (by decide) (nst_use hK nw_26 _) rfl d_GV_change_94 ?_
          refine g_val (show nI _ = nI ((V (5 + 8 * n) 1) + 1) from congrArg nI (by simp (disch := omega) only [pt_eq, pt_ne, pt_nk])) ?_
          refine g_aload_n hx hb d_GV_change_97 rfl rfl ?_
          refine g_getN hx hb hts (in_mw in_PS) hown hK.1 (w_P hn) rfl 8 (by decide) (nst_use hK nw_36 _) rfl d_GV_change_98 ?_
          refine g_val (show nI _ = nI (V (5 + 8 * n) 8) from congrArg nI (by simp (disch := omega) only [pt_eq, pt_ne, pt_nk])) ?_
          refine g_iload_n hx hb d_GV_change_101 rfl rfl ?_
          refine g_aload_n hx hb d_GV_change_102 rfl rfl ?_
          refine g_getN hx hb hts (in_mw in_PS) hown hK.1 (w_P hn) rfl 7 (by decide) (nst_use hK nw_34 _) rfl d_GV_change_103 ?_
          refine g_val (show nI _ = nI (V (5 + 8 * n) 7) from congrArg nI (by simp (disch := omega) only [pt_eq, pt_ne, pt_nk])) ?_
          refine g_callSi (nn := 3) ⟨hx, hb, hml.trans rfl, hown, hts⟩ (ct_GV_withCount l D ad ct had _ _ _ _ hde hn hpa.2.2.2.2.2.2.2.1) (mk_S hts t_125 t_126 t_1 t_127 rfl rfl (by decide +kernel) ⟨Nat.le_of_ble_eq_true rfl, Nat.le_of_ble_eq_true rfl⟩) (fun _ h => h) (gK_ok D ct) hK (Nat.le_of_ble_eq_true rfl) ⟨Nat.zero_le _, Nat.zero_le _⟩ rfl rfl d_GV_change_106 ?_
          rintro _ _ ⟨rfl, rfl⟩
          refine g_iast hx hb hK.1 (gw_D had) (w_Pa (k := 6) hn (by decide) (by decide)) 0 rfl (show _ < 16 by omega) (by decide) d_GV_change_109 (s_Pa (k := 6) hn (by decide) (by decide) _ _) ?_
          refine g_aload_n hx hb d_GV_change_110 rfl rfl ?_
          refine g_iload_n hx hb d_GV_change_111 rfl rfl ?_
          refine g_aload_n hx hb d_GV_change_112 rfl rfl ?_
          refine g_getN hx hb hts (in_mw in_PS) hown hK.1 (w_P hn) rfl 1 (by decide) (nst_use hK nw_26 _) rfl d_GV_change_113 ?_
          refine g_val (show nI _ = nI ((V (5 + 8 * n) 1) + 1) from congrArg nI (by simp (disch := omega) only [pt_eq, pt_ne, pt_nk])) ?_
          refine g_callVNv (C := "GroupViews$ProcessState") (nn := 2) ⟨hx, hb, hml.trans rfl, hown, hts⟩ (ct_PS_learnSync l D ad ct had _ _ _ _ hn (by omega) (by omega)) (mk_VN hK hts nw_157 t_159 ts_PS_learnSync t_2 t_160 rfl rfl (by decide +kernel) ⟨Nat.le_of_ble_eq_true rfl, Nat.le_of_ble_eq_true rfl⟩) hK.1 rfl (w_P hn) rfl (fun _ h => h) (gK_ok D ct) hK (Nat.le_of_ble_eq_true rfl) ⟨Nat.zero_le _, Nat.zero_le _⟩ rfl rfl d_GV_change_116 ?_
          rintro _ rfl
          refine g_aload_n hx hb d_GV_change_119 rfl rfl ?_
          refine g_iload_n hx hb d_GV_change_120 rfl rfl ?_
          refine g_iload_n hx hb d_GV_change_121 rfl rfl ?_
          refine g_bipush hx hb d_GV_change_122 k_bipush_64 ?_
          refine g_aload_n hx hb d_GV_change_124 rfl rfl ?_
          refine g_getN hx hb hts (in_mw in_PS) hown hK.1 (w_P hn) rfl 1 (by decide) (nst_use hK nw_26 _) rfl d_GV_change_125 ?_
          refine g_val (show nI _ = nI (V (5 + 8 * n) 1 + 1) from congrArg nI (by unfold csy; simp (disch := omega) only [pt_eq, pt_ne, pt_nk])) ?_
          refine n_iadd hx hb d_GV_change_128 ?_
          refine g_callVv (C := "GroupViews") (nn := 3) ⟨hx, hb, hml.trans rfl, hown, hts⟩ (ct_GV_putToOthers l D ad ct had _ _ _ _ hn (by omega) (fun i hi => by unfold csy; simp (disch := omega) only [pt_eq, pt_ne, pt_nk]; exact (hcb.ln i hi).2.1)) (mk_V hts t_136 t_138 ts_GV_putToOthers t_1 t_139 rfl rfl (by decide +kernel) ⟨Nat.le_of_ble_eq_true rfl, Nat.le_of_ble_eq_true rfl⟩) hK.1 rfl w_0 rfl (fun _ h => h) (gK_ok D ct) hK (Nat.le_of_ble_eq_true rfl) ⟨Nat.zero_le _, Nat.zero_le _⟩ rfl rfl d_GV_change_129 ?_
          rintro _ rfl
          refine g_aload_n hx hb d_GV_change_132 rfl rfl ?_
          refine g_getN hx hb hts (in_mw in_PS) hown hK.1 (w_P hn) rfl 1 (by decide) (nst_use hK nw_26 _) rfl d_GV_change_133 ?_
          refine g_val (show nI _ = nI (V (5 + 8 * n) 1 + 1) from congrArg nI (by rw [cpo_ne (by omega) hn 4 (by decide)]; unfold csy; simp (disch := omega) only [pt_eq, pt_ne, pt_nk])) ?_
          have hS : cChange V n set = (nI (V (5 + 8 * n) 1 + 1), cpo (csy (pt (pt (pt (pt (pt (pt (pt V (5 + 8 * n) 1 (V (5 + 8 * n) 1 + 1)) (5 + 8 * n) 2 set) (5 + 8 * n) 4 1) (5 + 8 * n) 3 1) (5 + 8 * n) 5 0) (5 + 8 * n + 5) (V (5 + 8 * n) 1 + 1) (V (5 + 8 * n) 0)) (5 + 8 * n + 6) (V (5 + 8 * n) 1 + 1) (wc (V (5 + 8 * n) 8) n (V (5 + 8 * n) 7))) n n (V (5 + 8 * n) 1 + 1)) n set (64 + (V (5 + 8 * n) 1 + 1)) 4) := by unfold cChange; rw [if_neg (not_not_intro ⟨hne.1, hne.2, by omega⟩), if_neg (by omega)]
          exact g_iret hx hb hr hlk d_GV_change_136 (Or.inr ⟨hn, by rw [hS] <;> first | exact n0_eq | exact n1_eq | exact n2_eq, by rw [hS]⟩)
        · refine g_bipush hx hb d_GV_change_43 k_bipush_m3 ?_
          have hS : cChange V n set = (-3, V) := by unfold cChange; rw [if_neg (not_not_intro ⟨hne.1, hne.2, by omega⟩), if_pos hch]
          exact g_iret hx hb hr hlk d_GV_change_45 (Or.inr ⟨hn, by rw [hS] <;> first | exact n0_eq | exact n1_eq | exact n2_eq, by rw [hS]⟩)
      · refine g_bipush hx hb d_GV_change_24 k_bipush_m2 ?_
        have hS : cChange V n set = (-2, V) := by unfold cChange; rw [if_pos (fun z => by omega)]
        exact g_iret hx hb hr hlk d_GV_change_26 (Or.inr ⟨hn, by rw [hS] <;> first | exact n0_eq | exact n1_eq | exact n2_eq, by rw [hS]⟩)
  · have hn := bN_0.mp hn
    refine g_iconst hx hb d_GV_change_7 k_iconst_m1 ?_
    exact g_iret hx hb hr hlk d_GV_change_8 (Or.inl ⟨hn, rfl, rfl⟩)
set_option maxRecDepth 100000 in
set_option maxHeartbeats 4000000 in
theorem ct_GV_form (l : Launch) (D : va_G) (ad : Nat → Nat) (ct : Nat → ClassId) (had : adOk ad) (V : VV) (set : Nat) (h2 : set < 2 ^ 32) (hcb : CB V) : CTi l y_GV_form (mw y_GV_form c_GV_form 3 (some .int)) { frames := 2, cells := 0, slots := 0, locals := 43 } (gK D ct) D vcl (gA ad) [.ref (ad 0), .int (nI set)] (gw ad ct V) (fun r w => ∃ X', cForm V set r X' ∧ w = gw ad ct X') := by
  refine ct_i (by decide) rfl rfl (Nat.le_of_ble_eq_true rfl) ?_
  intro pg en sx mx blw mth cdx hx hb hr hts hown hlk hml hK
  refine g_L (L' := [_, _, _]) rfl ?_
  have hf := hcb.f
  refine g_iload_n hx hb d_GV_form_0 rfl rfl ?_
  refine g_callSi (nn := 1) ⟨hx, hb, hml.trans rfl, hown, hts⟩ (ct_GV_isNonEmptySet l D ad ct had _ _ (by omega)) (mk_S hts t_154 t_155 t_1 t_156 rfl rfl (by decide +kernel) ⟨Nat.le_of_ble_eq_true rfl, Nat.le_of_ble_eq_true rfl⟩) (fun _ h => h) (gK_ok D ct) hK (Nat.le_of_ble_eq_true rfl) ⟨Nat.zero_le _, Nat.zero_le _⟩ rfl rfl d_GV_form_1 ?_
  rintro _ _ ⟨rfl, rfl⟩
  refine n_if_ne (tgt := 10) hx hb d_GV_form_4 (by decide) bN_lt (fun hne => ?_) (fun hne => ?_)
  · have hne := bN_n0.mp hne
    refine g_aload_n hx hb d_GV_form_10 rfl rfl ?_
    refine g_get hx hb hts (in_mw in_GV) hown hK.1 w_0 rfl 4 (by decide) (hts _ (List.mem_cons_of_mem _ t_103)) rfl d_GV_form_11 ?_
    refine g_bipush hx hb d_GV_form_14 k_bipush_15 ?_
    refine n_icmp_lt (tgt := 22) hx hb d_GV_form_16 (by decide) (by omega) (by omega) (fun hfo => ?_) (fun hfo => ?_)
    · refine g_aload_n hx hb d_GV_form_22 rfl rfl ?_
      refine g_iload_n hx hb d_GV_form_23 rfl rfl ?_
      refine g_callVi (C := "GroupViews") (nn := 1) ⟨hx, hb, hml.trans rfl, hown, hts⟩ (ct_GV_canForm l D ad ct had _ _ (by omega) (fun p hp => ⟨(hcb.p p hp).2.2.2.1, (hcb.p p hp).2.2.1⟩)) (mk_V hts t_165 t_167 ts_GV_canForm t_1 t_168 rfl rfl (by decide +kernel) ⟨Nat.le_of_ble_eq_true rfl, Nat.le_of_ble_eq_true rfl⟩) hK.1 rfl w_0 rfl (fun _ h => h) (gK_ok D ct) hK (Nat.le_of_ble_eq_true rfl) ⟨Nat.zero_le _, Nat.zero_le _⟩ rfl rfl d_GV_form_24 ?_
      rintro _ _ ⟨rfl, rfl⟩
      refine n_if_ne (tgt := 33) hx hb d_GV_form_27 (by decide) bC_lt (fun hcf => ?_) (fun hcf => ?_)
      · have hcf := bC_n0.mp hcf
        refine g_aload_n hx hb d_GV_form_33 rfl rfl ?_
        refine g_dup hx hb d_GV_form_34 rfl ?_
        refine g_get hx hb hts (in_mw in_GV) hown hK.1 w_0 rfl 4 (by decide) (hts _ (List.mem_cons_of_mem _ t_103)) rfl d_GV_form_35 ?_
        refine g_iconst hx hb d_GV_form_38 k_iconst_1 ?_
        refine n_iadd hx hb d_GV_form_39 ?_
        refine g_put (ty := .int) hx hb hts (in_mw in_GV) ty_GV tyo_GV nm_GV hown hK.1 (gw_D had) w_0 rfl 4 (by decide) (hts _ (List.mem_cons_of_mem _ t_103)) rfl (by decide +kernel) rfl rfl (Nat.le_of_ble_eq_true rfl) d_GV_form_40 (s_0 _) ?_
        refine g_aload_n hx hb d_GV_form_43 rfl rfl ?_
        refine g_get hx hb hts (in_mw in_GV) hown hK.1 w_0 rfl 2 (by decide) (hts _ (List.mem_cons_of_mem _ t_101)) rfl d_GV_form_44 ?_
        refine g_aload_n hx hb d_GV_form_47 rfl rfl ?_
        refine g_get hx hb hts (in_mw in_GV) hown hK.1 w_0 rfl 4 (by decide) (hts _ (List.mem_cons_of_mem _ t_103)) rfl d_GV_form_48 ?_
        refine g_val (show nI _ = nI ((V 0 4) + 1) from congrArg nI (by simp (disch := omega) only [pt_eq, pt_ne, pt_nk])) ?_
        refine g_iload_n hx hb d_GV_form_51 rfl rfl ?_
        refine g_iast hx hb hK.1 (gw_D had) w_3 0 rfl (show _ < 16 by omega) (by decide) d_GV_form_52 (s_3 _ _) ?_
        refine g_iconst hx hb d_GV_form_53 k_iconst_0 ?_
        refine g_istore_n (L' := [_, _, _]) hx hb d_GV_form_54 rfl (Nat.le_of_ble_eq_true rfl) rfl ?_
        refine g_loop 4 (fun q => gw ad ct (cfo (pt (pt V 0 4 (V 0 4 + 1)) 3 (V 0 4 + 1) set) set (V 0 4 + 1) q)) (fun q => [some (.ref (ad 0)), some (.int (nI set)), some (.int (nI q))]) (fun q => True) 0 (by omega) trivial rfl rfl ?_
        intro q hq0_q hqE_q hI_q ih_q
        try dsimp only
        refine g_iload_n hx hb d_GV_form_55 rfl rfl ?_
        refine g_iconst hx hb d_GV_form_56 k_iconst_4 ?_
        refine n_icmp_ge (tgt := 106) hx hb d_GV_form_57 (by decide) (by omega) (by omega) (fun hc1 => ?_) (fun hc1 => ?_)
        · have hq4 : q = 4 := by omega
          subst hq4
          refine g_aload_n hx hb d_GV_form_106 rfl rfl ?_
          refine g_get hx hb hts (in_mw in_GV) hown hK.1 w_0 rfl 4 (by decide) (hts _ (List.mem_cons_of_mem _ t_103)) rfl d_GV_form_107 ?_
          refine g_val (show nI _ = nI (V 0 4 + 1) from congrArg nI (by rw [cfo_ne (by decide) (fun j _ => by omega) (by omega)]; simp (disch := omega) only [pt_eq, pt_ne, pt_nk])) ?_
          exact g_iret hx hb hr hlk d_GV_form_110 (⟨_, Or.inr (Or.inr (Or.inr ⟨hne, by omega, hcf, rfl, rfl⟩)), rfl⟩)
        · have hq : q < 4 := by omega
          refine g_iload_n hx hb d_GV_form_60 rfl rfl ?_
          refine g_iload_n hx hb d_GV_form_61 rfl rfl ?_
          refine g_callSi (nn := 2) ⟨hx, hb, hml.trans rfl, hown, hts⟩ (ct_GV_has l D ad ct had _ _ _ (by omega) (by omega)) (mk_S hts t_140 t_141 t_1 t_142 rfl rfl (by decide +kernel) ⟨Nat.le_of_ble_eq_true rfl, Nat.le_of_ble_eq_true rfl⟩) (fun _ h => h) (gK_ok D ct) hK (Nat.le_of_ble_eq_true rfl) ⟨Nat.zero_le _, Nat.zero_le _⟩ rfl rfl d_GV_form_62 ?_
          rintro _ _ ⟨rfl, rfl⟩
          refine n_if_eq (tgt := 100) hx hb d_GV_form_65 (by decide) (by omega) (fun hbit => ?_) (fun hbit => ?_)
          · refine n_iinc (L' := [_, _, _]) hx hb d_GV_form_100 rfl rfl ?_
            refine g_goto (tgt := 55) hx hb d_GV_form_103 (by decide) ?_
            refine g_w (congrArg (gw ad ct) (show _ = cfo (pt (pt V 0 4 (V 0 4 + 1)) 3 (V 0 4 + 1) set) set (V 0 4 + 1) (q + 1) from by rw [cfo, if_neg (by omega)])) ?_
            exact ih_q (by omega) trivial
          · refine g_aload_n hx hb d_GV_form_68 rfl rfl ?_
            refine g_get hx hb hts (in_mw in_GV) hown hK.1 w_0 rfl 3 (by decide) (hts _ (List.mem_cons_of_mem _ t_102)) rfl d_GV_form_69 ?_
            refine g_aload_n hx hb d_GV_form_72 rfl rfl ?_
            refine g_get hx hb hts (in_mw in_GV) hown hK.1 w_0 rfl 4 (by decide) (hts _ (List.mem_cons_of_mem _ t_103)) rfl d_GV_form_73 ?_
            refine g_val (show nI _ = nI (V 0 4 + 1) from congrArg nI (by rw [cfo_ne (by decide) (fun j _ => by omega) (by omega)]; simp (disch := omega) only [pt_eq, pt_ne, pt_nk])) ?_
            refine g_iload_n hx hb d_GV_form_76 rfl rfl ?_
            refine g_callSi (nn := 2) ⟨hx, hb, hml.trans rfl, hown, hts⟩ (ct_GV_startIndex l D ad ct had _ _ _) (mk_S hts t_169 t_170 t_1 t_171 rfl rfl (by decide +kernel) ⟨Nat.le_of_ble_eq_true rfl, Nat.le_of_ble_eq_true rfl⟩) (fun _ h => h) (gK_ok D ct) hK (Nat.le_of_ble_eq_true rfl) ⟨Nat.zero_le _, Nat.zero_le _⟩ rfl rfl d_GV_form_77 ?_
            rintro _ _ ⟨rfl, rfl⟩
            refine g_aload_n hx hb d_GV_form_80 rfl rfl ?_
            refine g_get hx hb hts (in_mw in_GV) hown hK.1 w_0 rfl 0 (by decide) (hts _ (List.mem_cons_of_mem _ t_99)) rfl d_GV_form_81 ?_
            refine g_iload_n hx hb d_GV_form_84 rfl rfl ?_
            refine g_aald hx hb hK.1 w_1 2 rfl hq (by decide) (fP hq) d_GV_form_85 ?_
            refine g_getN hx hb hts (in_mw in_PS) hown hK.1 (w_P hq) rfl 1 (by decide) (nst_use hK nw_26 _) rfl d_GV_form_86 ?_
            refine g_iast hx hb hK.1 (gw_D had) w_4 0 rfl (show _ < 64 by omega) (by decide) d_GV_form_89 (s_4 _ _) ?_
            refine g_aload_n hx hb d_GV_form_90 rfl rfl ?_
            refine g_get hx hb hts (in_mw in_GV) hown hK.1 w_0 rfl 0 (by decide) (hts _ (List.mem_cons_of_mem _ t_99)) rfl d_GV_form_91 ?_
            refine g_iload_n hx hb d_GV_form_94 rfl rfl ?_
            refine g_aald hx hb hK.1 w_1 2 rfl hq (by decide) (fP hq) d_GV_form_95 ?_
            refine g_iconst hx hb d_GV_form_96 k_iconst_0 ?_
            refine g_putN (ty := .boolean) hx hb hts (in_mw in_PS) ty_PS tyo_PS nm_PS hown hK.1 (gw_D had) (w_P hq) rfl 3 (by decide) (nst_use hK nw_28 _) rfl (by decide +kernel) (by decide +kernel) rfl (Nat.le_of_ble_eq_true rfl) d_GV_form_97 (s_P hq 3 _ (by decide)) ?_
            refine n_iinc (L' := [_, _, _]) hx hb d_GV_form_100 rfl rfl ?_
            refine g_goto (tgt := 55) hx hb d_GV_form_103 (by decide) ?_
            refine g_w (congrArg (gw ad ct) (show _ = cfo (pt (pt V 0 4 (V 0 4 + 1)) 3 (V 0 4 + 1) set) set (V 0 4 + 1) (q + 1) from by rw [cfo, if_pos (by omega)])) ?_
            exact ih_q (by omega) trivial
      · have hcf := bC_0.mp hcf
        refine g_bipush hx hb d_GV_form_30 k_bipush_m4 ?_
        exact g_iret hx hb hr hlk d_GV_form_32 (⟨_, Or.inr (Or.inr (Or.inl ⟨hne, by omega, hcf, rfl, rfl⟩)), rfl⟩)
    · refine g_bipush hx hb d_GV_form_19 k_bipush_m3 ?_
      exact g_iret hx hb hr hlk d_GV_form_21 (⟨_, Or.inr (Or.inl ⟨hne, hfo, rfl, rfl⟩), rfl⟩)
  · have hne := bN_0.mp hne
    refine g_bipush hx hb d_GV_form_7 k_bipush_m2 ?_
    exact g_iret hx hb hr hlk d_GV_form_9 (⟨_, Or.inl ⟨hne, rfl, rfl⟩, rfl⟩)
set_option maxRecDepth 100000 in
set_option maxHeartbeats 4000000 in
theorem ct_GV_tell (l : Launch) (D : va_G) (ad : Nat → Nat) (ct : Nat → ClassId) (had : adOk ad) (V : VV) (n v : Nat) (h1 : n < 2 ^ 32) (h2 : v < 2 ^ 32) (hcb : CB V) : CTi l y_GV_tell (mw y_GV_tell c_GV_tell 4 (some .int)) { frames := 1, cells := 0, slots := 0, locals := 21 } (gK D ct) D vcl (gA ad) [.ref (ad 0), .int (nI n), .int (nI v)] (gw ad ct V) (fun r w => (¬ n < 4 ∧ r = -1 ∧ w = gw ad ct V) ∨ (n < 4 ∧ r = (cTell V n v).1 ∧ w = gw ad ct (cTell V n v).2)) := by
  refine ct_i (by decide) rfl rfl (Nat.le_of_ble_eq_true rfl) ?_
  intro pg en sx mx blw mth cdx hx hb hr hts hown hlk hml hK
  refine g_L (L' := [_, _, _, _]) rfl ?_
  have hf := hcb.f
  refine g_iload_n hx hb d_GV_tell_0 rfl rfl ?_
  refine g_callSi (nn := 1) ⟨hx, hb, hml.trans rfl, hown, hts⟩ (ct_GV_isProcess l D ad ct had _ _ (by omega)) (mk_S hts t_119 t_120 t_1 t_121 rfl rfl (by decide +kernel) ⟨Nat.le_of_ble_eq_true rfl, Nat.le_of_ble_eq_true rfl⟩) (fun _ h => h) (gK_ok D ct) hK (Nat.le_of_ble_eq_true rfl) ⟨Nat.zero_le _, Nat.zero_le _⟩ rfl rfl d_GV_tell_1 ?_
  rintro _ _ ⟨rfl, rfl⟩
  refine n_if_ne (tgt := 9) hx hb d_GV_tell_4 (by decide) bN_lt (fun hn => ?_) (fun hn => ?_)
  · have hn := bN_n0.mp hn
    have hpa := hcb.p n hn
    have hde := hpa.2.2.2.2.2.2.2.2
    refine g_aload_n hx hb d_GV_tell_9 rfl rfl ?_
    refine g_iload_n hx hb d_GV_tell_10 rfl rfl ?_
    refine g_callVi (C := "GroupViews") (nn := 1) ⟨hx, hb, hml.trans rfl, hown, hts⟩ (ct_GV_isFormed l D ad ct had _ _ (by omega) (by omega)) (mk_V hts t_176 t_178 ts_GV_isFormed t_1 t_179 rfl rfl (by decide +kernel) ⟨Nat.le_of_ble_eq_true rfl, Nat.le_of_ble_eq_true rfl⟩) hK.1 rfl w_0 rfl (fun _ h => h) (gK_ok D ct) hK (Nat.le_of_ble_eq_true rfl) ⟨Nat.zero_le _, Nat.zero_le _⟩ rfl rfl d_GV_tell_11 ?_
    rintro _ _ ⟨rfl, rfl⟩
    refine n_if_eq (tgt := 30) hx hb d_GV_tell_14 (by decide) bN_lt (fun hfo => ?_) (fun hfo => ?_)
    · have hfo := bN_0.mp hfo
      refine g_bipush hx hb d_GV_tell_30 k_bipush_m2 ?_
      have hS : cTell V n v = (-2, V) := by unfold cTell; rw [if_pos (fun z => hfo ⟨z.1, z.2.1⟩)]
      exact g_iret hx hb hr hlk d_GV_tell_32 (Or.inr ⟨hn, by rw [hS] <;> first | exact n0_eq | exact n1_eq | exact n2_eq, by rw [hS]⟩)
    · have hfo := bN_n0.mp hfo
      have hs16 := hcb.s v (by omega)
      have ht16 := hcb.t (v * 4 + n) (by omega)
      refine g_aload_n hx hb d_GV_tell_17 rfl rfl ?_
      refine g_get hx hb hts (in_mw in_GV) hown hK.1 w_0 rfl 2 (by decide) (hts _ (List.mem_cons_of_mem _ t_101)) rfl d_GV_tell_18 ?_
      refine g_iload_n hx hb d_GV_tell_21 rfl rfl ?_
      refine g_iald hx hb hK.1 w_3 0 rfl (show _ < 16 by omega) (by decide) rfl d_GV_tell_22 ?_
      refine g_iload_n hx hb d_GV_tell_23 rfl rfl ?_
      refine g_callSi (nn := 2) ⟨hx, hb, hml.trans rfl, hown, hts⟩ (ct_GV_has l D ad ct had _ _ _ (by omega) (by omega)) (mk_S hts t_140 t_141 t_1 t_142 rfl rfl (by decide +kernel) ⟨Nat.le_of_ble_eq_true rfl, Nat.le_of_ble_eq_true rfl⟩) (fun _ h => h) (gK_ok D ct) hK (Nat.le_of_ble_eq_true rfl) ⟨Nat.zero_le _, Nat.zero_le _⟩ rfl rfl d_GV_tell_24 ?_
      rintro _ _ ⟨rfl, rfl⟩
      refine n_if_ne (tgt := 33) hx hb d_GV_tell_27 (by decide) (by omega) (fun hbit => ?_) (fun hbit => ?_)
      · refine g_aload_n hx hb d_GV_tell_33 rfl rfl ?_
        refine g_get hx hb hts (in_mw in_GV) hown hK.1 w_0 rfl 0 (by decide) (hts _ (List.mem_cons_of_mem _ t_99)) rfl d_GV_tell_34 ?_
        refine g_iload_n hx hb d_GV_tell_37 rfl rfl ?_
        refine g_aald hx hb hK.1 w_1 2 rfl hn (by decide) (fP hn) d_GV_tell_38 ?_
        refine g_astore_n (L' := [_, _, _, _]) hx hb d_GV_tell_39 rfl (Nat.le_of_ble_eq_true rfl) rfl ?_
        refine g_aload_n hx hb d_GV_tell_40 rfl rfl ?_
        refine g_getN hx hb hts (in_mw in_PS) hown hK.1 (w_P hn) rfl 6 (by decide) (nst_use hK nw_33 _) rfl d_GV_tell_41 ?_
        refine g_iload_n hx hb d_GV_tell_44 rfl rfl ?_
        refine n_icmp_lt (tgt := 51) hx hb d_GV_tell_45 (by decide) (by omega) (by omega) (fun hgt => ?_) (fun hgt => ?_)
        · refine g_aload_n hx hb d_GV_tell_51 rfl rfl ?_
          refine g_get hx hb hts (in_mw in_GV) hown hK.1 w_0 rfl 3 (by decide) (hts _ (List.mem_cons_of_mem _ t_102)) rfl d_GV_tell_52 ?_
          refine g_iload_n hx hb d_GV_tell_55 rfl rfl ?_
          refine g_iload_n hx hb d_GV_tell_56 rfl rfl ?_
          refine g_callSi (nn := 2) ⟨hx, hb, hml.trans rfl, hown, hts⟩ (ct_GV_startIndex l D ad ct had _ _ _) (mk_S hts t_169 t_170 t_1 t_171 rfl rfl (by decide +kernel) ⟨Nat.le_of_ble_eq_true rfl, Nat.le_of_ble_eq_true rfl⟩) (fun _ h => h) (gK_ok D ct) hK (Nat.le_of_ble_eq_true rfl) ⟨Nat.zero_le _, Nat.zero_le _⟩ rfl rfl d_GV_tell_57 ?_
          rintro _ _ ⟨rfl, rfl⟩
          refine g_iald hx hb hK.1 w_4 0 rfl (show _ < 64 by omega) (by decide) rfl d_GV_tell_60 ?_
          refine g_aload_n hx hb d_GV_tell_61 rfl rfl ?_
          refine g_getN hx hb hts (in_mw in_PS) hown hK.1 (w_P hn) rfl 1 (by decide) (nst_use hK nw_26 _) rfl d_GV_tell_62 ?_
          refine n_icmp_eq (tgt := 71) hx hb d_GV_tell_65 (by decide) (by omega) (by omega) (fun hst => ?_) (fun hst => ?_)
          · refine g_aload_n hx hb d_GV_tell_71 rfl rfl ?_
            refine g_iload_n hx hb d_GV_tell_72 rfl rfl ?_
            refine g_putN (ty := .int) hx hb hts (in_mw in_PS) ty_PS tyo_PS nm_PS hown hK.1 (gw_D had) (w_P hn) rfl 6 (by decide) (nst_use hK nw_33 _) rfl (by decide +kernel) rfl rfl (Nat.le_of_ble_eq_true rfl) d_GV_tell_73 (s_P hn 6 _ (by decide)) ?_
            refine g_aload_n hx hb d_GV_tell_76 rfl rfl ?_
            refine g_iload_n hx hb d_GV_tell_77 rfl rfl ?_
            refine g_putN (ty := .int) hx hb hts (in_mw in_PS) ty_PS tyo_PS nm_PS hown hK.1 (gw_D had) (w_P hn) rfl 5 (by decide) (nst_use hK nw_31 _) rfl (by decide +kernel) rfl rfl (Nat.le_of_ble_eq_true rfl) d_GV_tell_78 (s_P hn 5 _ (by decide)) ?_
            refine g_iconst hx hb d_GV_tell_81 k_iconst_0 ?_
            have hS : cTell V n v = (0, pt (pt V (5 + 8 * n) 6 v) (5 + 8 * n) 5 v) := by unfold cTell; rw [if_neg (not_not_intro ⟨hfo.1, hfo.2, by omega⟩), if_neg (by omega), if_neg (not_not_intro hst)]
            exact g_iret hx hb hr hlk d_GV_tell_82 (Or.inr ⟨hn, by rw [hS] <;> first | exact n0_eq | exact n1_eq | exact n2_eq, by rw [hS]⟩)
          · refine g_bipush hx hb d_GV_tell_68 k_bipush_m4 ?_
            have hS : cTell V n v = (-4, V) := by unfold cTell; rw [if_neg (not_not_intro ⟨hfo.1, hfo.2, by omega⟩), if_neg (by omega), if_pos hst]
            exact g_iret hx hb hr hlk d_GV_tell_70 (Or.inr ⟨hn, by rw [hS] <;> first | exact n0_eq | exact n1_eq | exact n2_eq, by rw [hS]⟩)
        · refine g_bipush hx hb d_GV_tell_48 k_bipush_m3 ?_
          have hS : cTell V n v = (-3, V) := by unfold cTell; rw [if_neg (not_not_intro ⟨hfo.1, hfo.2, by omega⟩), if_pos hgt]
          exact g_iret hx hb hr hlk d_GV_tell_50 (Or.inr ⟨hn, by rw [hS] <;> first | exact n0_eq | exact n1_eq | exact n2_eq, by rw [hS]⟩)
      · refine g_bipush hx hb d_GV_tell_30 k_bipush_m2 ?_
        have hS : cTell V n v = (-2, V) := by unfold cTell; rw [if_pos (fun z => by omega)]
        exact g_iret hx hb hr hlk d_GV_tell_32 (Or.inr ⟨hn, by rw [hS] <;> first | exact n0_eq | exact n1_eq | exact n2_eq, by rw [hS]⟩)
  · have hn := bN_0.mp hn
    refine g_iconst hx hb d_GV_tell_7 k_iconst_m1 ?_
    exact g_iret hx hb hr hlk d_GV_tell_8 (Or.inl ⟨hn, rfl, rfl⟩)
set_option maxRecDepth 100000 in
set_option maxHeartbeats 4000000 in
theorem ct_GV_carry (l : Launch) (D : va_G) (ad : Nat → Nat) (ct : Nat → ClassId) (had : adOk ad) (V : VV) (p q : Nat) (h1 : p < 2 ^ 32) (h2 : q < 2 ^ 32) (hcb : CB V) : CTi l y_GV_carry (mw y_GV_carry c_GV_carry 4 (some .int)) { frames := 2, cells := 0, slots := 0, locals := 50 } (gK D ct) D vcl (gA ad) [.ref (ad 0), .int (nI p), .int (nI q)] (gw ad ct V) (fun r w => (¬ (p < 4 ∧ q < 4 ∧ ¬ p = q) ∧ r = -1 ∧ w = gw ad ct V) ∨ ((p < 4 ∧ q < 4 ∧ ¬ p = q) ∧ r = (cCarry V p q).1 ∧ w = gw ad ct (cCarry V p q).2)) := by
  refine ct_i (by decide) rfl rfl (Nat.le_of_ble_eq_true rfl) ?_
  intro pg en sx mx blw mth cdx hx hb hr hts hown hlk hml hK
  refine g_L (L' := [_, _, _, _]) rfl ?_
  refine g_iload_n hx hb d_GV_carry_0 rfl rfl ?_
  refine g_iload_n hx hb d_GV_carry_1 rfl rfl ?_
  refine g_callSi (nn := 2) ⟨hx, hb, hml.trans rfl, hown, hts⟩ (ct_GV_isLine l D ad ct had _ _ _ (by omega) (by omega)) (mk_S hts t_184 t_185 t_1 t_186 rfl rfl (by decide +kernel) ⟨Nat.le_of_ble_eq_true rfl, Nat.le_of_ble_eq_true rfl⟩) (fun _ h => h) (gK_ok D ct) hK (Nat.le_of_ble_eq_true rfl) ⟨Nat.zero_le _, Nat.zero_le _⟩ rfl rfl d_GV_carry_2 ?_
  rintro _ _ ⟨rfl, rfl⟩
  refine n_if_ne (tgt := 10) hx hb d_GV_carry_5 (by decide) bN_lt (fun hn => ?_) (fun hn => ?_)
  · have hn := bN_n0.mp hn
    have hli := hcb.ln (p * 4 + q) (by omega)
    refine g_aload_n hx hb d_GV_carry_10 rfl rfl ?_
    refine g_get hx hb hts (in_mw in_GV) hown hK.1 w_0 rfl 1 (by decide) (hts _ (List.mem_cons_of_mem _ t_100)) rfl d_GV_carry_11 ?_
    refine g_iload_n hx hb d_GV_carry_14 rfl rfl ?_
    refine g_iload_n hx hb d_GV_carry_15 rfl rfl ?_
    refine g_callSi (nn := 2) ⟨hx, hb, hml.trans rfl, hown, hts⟩ (ct_GV_lineIndex l D ad ct had _ _ _) (mk_S hts t_143 t_144 t_1 t_145 rfl rfl (by decide +kernel) ⟨Nat.le_of_ble_eq_true rfl, Nat.le_of_ble_eq_true rfl⟩) (fun _ h => h) (gK_ok D ct) hK (Nat.le_of_ble_eq_true rfl) ⟨Nat.zero_le _, Nat.zero_le _⟩ rfl rfl d_GV_carry_16 ?_
    rintro _ _ ⟨rfl, rfl⟩
    refine g_aald hx hb hK.1 w_2 3 rfl (by omega) (by decide) (fL (by omega)) d_GV_carry_19 ?_
    refine g_callVNi (C := "GroupViews$Line") (nn := 0) ⟨hx, hb, hml.trans rfl, hown, hts⟩ (ct_LN_takeFirst l D ad ct had _ _ (by omega) (by omega) (by omega)) (mk_VN hK hts nw_187 t_189 ts_LN_takeFirst t_3 t_190 rfl rfl (by decide +kernel) ⟨Nat.le_of_ble_eq_true rfl, Nat.le_of_ble_eq_true rfl⟩) hK.1 rfl (w_L (by omega)) rfl (fun _ h => h) (gK_ok D ct) hK (Nat.le_of_ble_eq_true rfl) ⟨Nat.zero_le _, Nat.zero_le _⟩ rfl rfl d_GV_carry_20 ?_
    rintro _ _ (⟨hem, rfl, rfl⟩ | ⟨hem, rfl, rfl⟩)
    · refine g_istore_n (L' := [_, _, _, _]) hx hb d_GV_carry_23 rfl (Nat.le_of_ble_eq_true rfl) rfl ?_
      refine g_iload_n hx hb d_GV_carry_24 rfl rfl ?_
      refine g_iconst hx hb d_GV_carry_25 k_iconst_m1 ?_
      refine g_icmp_ne (tgt := 31) hx hb d_GV_carry_26 (by decide) (fun hm => ?_) (fun hm => ?_)
      · exact absurd rfl hm
      · refine g_iconst hx hb d_GV_carry_29 k_iconst_0 ?_
        have hS : cCarry V p q = (0, V) := by unfold cCarry; rw [if_pos hem]
        exact g_iret hx hb hr hlk d_GV_carry_30 (Or.inr ⟨hn, by rw [hS] <;> first | exact n0_eq | exact n1_eq | exact n2_eq, by rw [hS]⟩)
    · refine g_istore_n (L' := [_, _, _, _]) hx hb d_GV_carry_23 rfl (Nat.le_of_ble_eq_true rfl) rfl ?_
      refine g_iload_n hx hb d_GV_carry_24 rfl rfl ?_
      refine g_iconst hx hb d_GV_carry_25 k_iconst_m1 ?_
      refine g_icmp_ne (tgt := 31) hx hb d_GV_carry_26 (by decide) (fun hm => ?_) (fun hm => ?_)
      · have w80 := hli.2.2 (V (37 + 2 * (p * 4 + q)) 1) (Nat.le_refl _) hem
        refine g_iload_n hx hb d_GV_carry_31 rfl rfl ?_
        refine g_bipush hx hb d_GV_carry_32 k_bipush_64 ?_
        refine n_icmp_ge (tgt := 57) hx hb d_GV_carry_34 (by decide) (by omega) (by omega) (fun h64 => ?_) (fun h64 => ?_)
        · refine g_aload_n hx hb d_GV_carry_57 rfl rfl ?_
          refine g_aload_n hx hb d_GV_carry_58 rfl rfl ?_
          refine g_get hx hb hts (in_mw in_GV) hown hK.1 w_0 rfl 0 (by decide) (hts _ (List.mem_cons_of_mem _ t_99)) rfl d_GV_carry_59 ?_
          refine g_iload_n hx hb d_GV_carry_62 rfl rfl ?_
          refine g_aald hx hb hK.1 w_1 2 rfl hn.2.1 (by decide) (fP hn.2.1) d_GV_carry_63 ?_
          refine g_iload_n hx hb d_GV_carry_64 rfl rfl ?_
          refine g_iload_n hx hb d_GV_carry_65 rfl rfl ?_
          refine g_bipush hx hb d_GV_carry_66 k_bipush_64 ?_
          refine n_isub hx hb d_GV_carry_68 (by omega) ?_
          refine g_callVv (C := "GroupViews") (nn := 3) ⟨hx, hb, hml.trans rfl, hown, hts⟩ (ct_GV_receiveSync l D ad ct had _ _ _ _ hn.2.1 hn.1 (by omega) (by rw [pt_ne (by omega)]; exact hcb.cv p _ hn.1 (by omega)) (by rw [pt_ne (by omega)]; exact hcb.cu p _ hn.1 (by omega))) (mk_V hts t_197 t_199 ts_GV_receiveSync t_1 t_200 rfl rfl (by decide +kernel) ⟨Nat.le_of_ble_eq_true rfl, Nat.le_of_ble_eq_true rfl⟩) hK.1 rfl w_0 rfl (fun _ h => h) (gK_ok D ct) hK (Nat.le_of_ble_eq_true rfl) ⟨Nat.zero_le _, Nat.zero_le _⟩ rfl rfl d_GV_carry_69 ?_
          rintro _ rfl
          refine g_iconst hx hb d_GV_carry_72 k_iconst_2 ?_
          have hS : cCarry V p q = (2, crs (pt V (37 + 2 * (p * 4 + q)) 1 (V (37 + 2 * (p * 4 + q)) 1 + 1)) q p (V (37 + 2 * (p * 4 + q) + 1) (V (37 + 2 * (p * 4 + q)) 1) - 64)) := by unfold cCarry; rw [if_neg (by omega), if_neg (by omega)]
          exact g_iret hx hb hr hlk d_GV_carry_73 (Or.inr ⟨hn, by rw [hS] <;> first | exact n0_eq | exact n1_eq | exact n2_eq, by rw [hS]⟩)
        · refine g_aload_n hx hb d_GV_carry_37 rfl rfl ?_
          refine g_get hx hb hts (in_mw in_GV) hown hK.1 w_0 rfl 0 (by decide) (hts _ (List.mem_cons_of_mem _ t_99)) rfl d_GV_carry_38 ?_
          refine g_iload_n hx hb d_GV_carry_41 rfl rfl ?_
          refine g_aald hx hb hK.1 w_1 2 rfl hn.2.1 (by decide) (fP hn.2.1) d_GV_carry_42 ?_
          refine g_iload_n hx hb d_GV_carry_43 rfl rfl ?_
          refine g_callSi (nn := 1) ⟨hx, hb, hml.trans rfl, hown, hts⟩ (ct_GV_viewOfSlot l D ad ct had _ _ (by omega)) (mk_S hts t_191 t_192 t_1 t_193 rfl rfl (by decide +kernel) ⟨Nat.le_of_ble_eq_true rfl, Nat.le_of_ble_eq_true rfl⟩) (fun _ h => h) (gK_ok D ct) hK (Nat.le_of_ble_eq_true rfl) ⟨Nat.zero_le _, Nat.zero_le _⟩ rfl rfl d_GV_carry_44 ?_
          rintro _ _ ⟨rfl, rfl⟩
          refine g_iload_n hx hb d_GV_carry_47 rfl rfl ?_
          refine g_iload_n hx hb d_GV_carry_48 rfl rfl ?_
          refine g_callSi (nn := 1) ⟨hx, hb, hml.trans rfl, hown, hts⟩ (ct_GV_numberOfSlot l D ad ct had _ _ (by omega)) (mk_S hts t_194 t_195 t_1 t_196 rfl rfl (by decide +kernel) ⟨Nat.le_of_ble_eq_true rfl, Nat.le_of_ble_eq_true rfl⟩) (fun _ h => h) (gK_ok D ct) hK (Nat.le_of_ble_eq_true rfl) ⟨Nat.zero_le _, Nat.zero_le _⟩ rfl rfl d_GV_carry_49 ?_
          rintro _ _ ⟨rfl, rfl⟩
          refine g_callVNv (C := "GroupViews$ProcessState") (nn := 3) ⟨hx, hb, hml.trans rfl, hown, hts⟩ (ct_PS_learnMessage l D ad ct had _ _ _ _ _ hn.2.1 (by omega) (by omega)) (mk_VN hK hts nw_128 t_130 ts_PS_learnMessage t_2 t_131 rfl rfl (by decide +kernel) ⟨Nat.le_of_ble_eq_true rfl, Nat.le_of_ble_eq_true rfl⟩) hK.1 rfl (w_P hn.2.1) rfl (fun _ h => h) (gK_ok D ct) hK (Nat.le_of_ble_eq_true rfl) ⟨Nat.zero_le _, Nat.zero_le _⟩ rfl rfl d_GV_carry_52 ?_
          rintro _ rfl
          refine g_iconst hx hb d_GV_carry_55 k_iconst_1 ?_
          have hS : cCarry V p q = (1, cln (pt V (37 + 2 * (p * 4 + q)) 1 (V (37 + 2 * (p * 4 + q)) 1 + 1)) q (V (37 + 2 * (p * 4 + q) + 1) (V (37 + 2 * (p * 4 + q)) 1) / 4) p (V (37 + 2 * (p * 4 + q) + 1) (V (37 + 2 * (p * 4 + q)) 1) % 4 + 1)) := by unfold cCarry; rw [if_neg (by omega), if_pos h64]
          exact g_iret hx hb hr hlk d_GV_carry_56 (Or.inr ⟨hn, by rw [hS] <;> first | exact n0_eq | exact n1_eq | exact n2_eq, by rw [hS]⟩)
      · exact absurd hm (q_nm1 (by have := hli.2.2 (V (37 + 2 * (p * 4 + q)) 1) (Nat.le_refl _) hem; omega))
  · have hn := bN_0.mp hn
    refine g_iconst hx hb d_GV_carry_8 k_iconst_m1 ?_
    exact g_iret hx hb hr hlk d_GV_carry_9 (Or.inl ⟨hn, rfl, rfl⟩)
set_option maxRecDepth 100000 in
set_option maxHeartbeats 4000000 in
theorem ct_GV_step (l : Launch) (D : va_G) (ad : Nat → Nat) (ct : Nat → ClassId) (had : adOk ad) (V : VV) (n : Nat) (h1 : n < 2 ^ 32) (hcb : CB V) : CTi l y_GV_step (mw y_GV_step c_GV_step 6 (some .int)) { frames := 3, cells := 0, slots := 0, locals := 79 } (gK D ct) D vcl (gA ad) [.ref (ad 0), .int (nI n)] (gw ad ct V) (fun r w => (¬ n < 4 ∧ r = -1 ∧ w = gw ad ct V) ∨ (n < 4 ∧ ∃ X', cStep V n r X' ∧ w = gw ad ct X')) := by
  refine ct_i (by decide) rfl rfl (Nat.le_of_ble_eq_true rfl) ?_
  intro pg en sx mx blw mth cdx hx hb hr hts hown hlk hml hK
  refine g_L (L' := [_, _, _, _, _, _]) rfl ?_
  refine g_iload_n hx hb d_GV_step_0 rfl rfl ?_
  refine g_callSi (nn := 1) ⟨hx, hb, hml.trans rfl, hown, hts⟩ (ct_GV_isProcess l D ad ct had _ _ (by omega)) (mk_S hts t_119 t_120 t_1 t_121 rfl rfl (by decide +kernel) ⟨Nat.le_of_ble_eq_true rfl, Nat.le_of_ble_eq_true rfl⟩) (fun _ h => h) (gK_ok D ct) hK (Nat.le_of_ble_eq_true rfl) ⟨Nat.zero_le _, Nat.zero_le _⟩ rfl rfl d_GV_step_1 ?_
  rintro _ _ ⟨rfl, rfl⟩
  refine n_if_ne (tgt := 9) hx hb d_GV_step_4 (by decide) bN_lt (fun hn => ?_) (fun hn => ?_)
  · have hn := bN_n0.mp hn
    have hpa := hcb.p n hn
    have hde := hpa.2.2.2.2.2.2.2.2
    refine g_aload_n hx hb d_GV_step_9 rfl rfl ?_
    refine g_get hx hb hts (in_mw in_GV) hown hK.1 w_0 rfl 0 (by decide) (hts _ (List.mem_cons_of_mem _ t_99)) rfl d_GV_step_10 ?_
    refine g_iload_n hx hb d_GV_step_13 rfl rfl ?_
    refine g_aald hx hb hK.1 w_1 2 rfl hn (by decide) (fP hn) d_GV_step_14 ?_
    refine g_astore_n (L' := [_, _, _, _, _, _]) hx hb d_GV_step_15 rfl (Nat.le_of_ble_eq_true rfl) rfl ?_
    refine g_aload_n hx hb d_GV_step_16 rfl rfl ?_
    refine g_getN hx hb hts (in_mw in_PS) hown hK.1 (w_P hn) rfl 4 (by decide) (nst_use hK nw_29 _) rfl d_GV_step_17 ?_
    refine n_if_ne (tgt := 31) hx hb d_GV_step_20 (by decide) (by omega) (fun hbl => ?_) (fun hbl => ?_)
    · refine g_aload_n hx hb d_GV_step_31 rfl rfl ?_
      refine g_getN hx hb hts (in_mw in_PS) hown hK.1 (w_P hn) rfl 5 (by decide) (nst_use hK nw_31 _) rfl d_GV_step_32 ?_
      refine n_if_ne (tgt := 40) hx hb d_GV_step_35 (by decide) (by omega) (fun hpe => ?_) (fun hpe => ?_)
      · have hs16 := hcb.s (V (5 + 8 * n) 5) (by omega)
        have hps := cps_lt hcb hn
        have hcm : (V 3 (V (5 + 8 * n) 5) &&& cps V n) < 16 := Nat.lt_of_le_of_lt Nat.and_le_left hs16
        refine g_aload_n hx hb d_GV_step_40 rfl rfl ?_
        refine g_get hx hb hts (in_mw in_GV) hown hK.1 w_0 rfl 2 (by decide) (hts _ (List.mem_cons_of_mem _ t_101)) rfl d_GV_step_41 ?_
        refine g_aload_n hx hb d_GV_step_44 rfl rfl ?_
        refine g_getN hx hb hts (in_mw in_PS) hown hK.1 (w_P hn) rfl 5 (by decide) (nst_use hK nw_31 _) rfl d_GV_step_45 ?_
        refine g_iald hx hb hK.1 w_3 0 rfl (show _ < 16 by omega) (by decide) rfl d_GV_step_48 ?_
        refine g_aload_n hx hb d_GV_step_49 rfl rfl ?_
        refine g_iload_n hx hb d_GV_step_50 rfl rfl ?_
        refine g_callVi (C := "GroupViews") (nn := 1) ⟨hx, hb, hml.trans rfl, hown, hts⟩ (ct_GV_presentSet l D ad ct had _ _ hn (by omega)) (mk_V hts t_132 t_134 ts_GV_presentSet t_1 t_135 rfl rfl (by decide +kernel) ⟨Nat.le_of_ble_eq_true rfl, Nat.le_of_ble_eq_true rfl⟩) hK.1 rfl w_0 rfl (fun _ h => h) (gK_ok D ct) hK (Nat.le_of_ble_eq_true rfl) ⟨Nat.zero_le _, Nat.zero_le _⟩ rfl rfl d_GV_step_51 ?_
        rintro _ _ ⟨rfl, rfl⟩
        refine n_iand hx hb d_GV_step_54 ?_
        refine g_istore_n (L' := [_, _, _, _, _, _]) hx hb d_GV_step_55 rfl (Nat.le_of_ble_eq_true rfl) rfl ?_
        refine g_aload_n hx hb d_GV_step_56 rfl rfl ?_
        refine g_aload_n hx hb d_GV_step_57 rfl rfl ?_
        refine g_iload_n hx hb d_GV_step_58 rfl rfl ?_
        refine g_callVi (C := "GroupViews") (nn := 2) ⟨hx, hb, hml.trans rfl, hown, hts⟩ (ct_GV_isReady l D ad ct had _ _ _ hn hcm hcb) (mk_V hts t_225 t_227 ts_GV_isReady t_1 t_228 rfl rfl (by decide +kernel) ⟨Nat.le_of_ble_eq_true rfl, Nat.le_of_ble_eq_true rfl⟩) hK.1 rfl w_0 rfl (fun _ h => h) (gK_ok D ct) hK (Nat.le_of_ble_eq_true rfl) ⟨Nat.zero_le _, Nat.zero_le _⟩ rfl rfl d_GV_step_59 ?_
        rintro _ _ ⟨rfl, rfl⟩
        refine n_if_ne (tgt := 67) hx hb d_GV_step_62 (by decide) bC_lt (fun hrd => ?_) (fun hrd => ?_)
        · have hrd := bC_n0.mp hrd
          have hco : (cco V n (V 3 (V (5 + 8 * n) 5) &&& cps V n) 4) < 16 := cco_lt 4 (by decide)
          have hlm := cli_pkd hcb (v := V (5 + 8 * n) 5) (cs := (cco V n (V 3 (V (5 + 8 * n) 5) &&& cps V n) 4)) (by omega) 4 (by decide)
          have llm := pkd_lt hlm
          have lde := pkd_lt hde
          refine g_aload_n hx hb d_GV_step_67 rfl rfl ?_
          refine g_aload_n hx hb d_GV_step_68 rfl rfl ?_
          refine g_iload_n hx hb d_GV_step_69 rfl rfl ?_
          refine g_callVi (C := "GroupViews") (nn := 2) ⟨hx, hb, hml.trans rfl, hown, hts⟩ (ct_GV_companionsAmong l D ad ct had _ _ _ hn hcm hcb) (mk_V hts t_233 t_235 ts_GV_companionsAmong t_1 t_236 rfl rfl (by decide +kernel) ⟨Nat.le_of_ble_eq_true rfl, Nat.le_of_ble_eq_true rfl⟩) hK.1 rfl w_0 rfl (fun _ h => h) (gK_ok D ct) hK (Nat.le_of_ble_eq_true rfl) ⟨Nat.zero_le _, Nat.zero_le _⟩ rfl rfl d_GV_step_70 ?_
          rintro _ _ ⟨rfl, rfl⟩
          refine g_istore (L' := [_, _, _, _, _, _]) hx hb d_GV_step_73 (Nat.le_of_ble_eq_true rfl) rfl ?_
          refine g_aload_n hx hb d_GV_step_75 rfl rfl ?_
          refine g_aload_n hx hb d_GV_step_76 rfl rfl ?_
          refine g_getN hx hb hts (in_mw in_PS) hown hK.1 (w_P hn) rfl 5 (by decide) (nst_use hK nw_31 _) rfl d_GV_step_77 ?_
          refine g_iload hx hb d_GV_step_80 rfl ?_
          refine g_callVi (C := "GroupViews") (nn := 2) ⟨hx, hb, hml.trans rfl, hown, hts⟩ (ct_GV_limitsOf l D ad ct had _ _ _ (by omega) hco hcb) (mk_V hts t_237 t_239 ts_GV_limitsOf t_1 t_240 rfl rfl (by decide +kernel) ⟨Nat.le_of_ble_eq_true rfl, Nat.le_of_ble_eq_true rfl⟩) hK.1 rfl w_0 rfl (fun _ h => h) (gK_ok D ct) hK (Nat.le_of_ble_eq_true rfl) ⟨Nat.zero_le _, Nat.zero_le _⟩ rfl rfl d_GV_step_82 ?_
          rintro _ _ ⟨rfl, rfl⟩
          refine g_istore (L' := [_, _, _, _, _, _]) hx hb d_GV_step_85 (Nat.le_of_ble_eq_true rfl) rfl ?_
          refine g_aload_n hx hb d_GV_step_87 rfl rfl ?_
          refine g_aload_n hx hb d_GV_step_88 rfl rfl ?_
          refine g_iload hx hb d_GV_step_89 rfl ?_
          refine g_callVi (C := "GroupViews") (nn := 2) ⟨hx, hb, hml.trans rfl, hown, hts⟩ (ct_GV_deliverOne l D ad ct had _ _ _ hn hlm hcb) (mk_V hts t_209 t_211 ts_GV_deliverOne t_1 t_212 rfl rfl (by decide +kernel) ⟨Nat.le_of_ble_eq_true rfl, Nat.le_of_ble_eq_true rfl⟩) hK.1 rfl w_0 rfl (fun _ h => h) (gK_ok D ct) hK (Nat.le_of_ble_eq_true rfl) ⟨Nat.zero_le _, Nat.zero_le _⟩ rfl rfl d_GV_step_91 ?_
          rintro r1 _ ⟨X1, hd1, rfl⟩
          refine g_iconst hx hb d_GV_step_94 k_iconst_1 ?_
          refine g_icmp_ne (tgt := 100) hx hb d_GV_step_95 (by decide) (fun hr1 => ?_) (fun hr1 => ?_)
          · have hX : r1 = 0 ∧ (∀ j, j < 4 → ¬ cdl V n (cli V (V (5 + 8 * n) 5) (cco V n (V 3 (V (5 + 8 * n) 5) &&& cps V n) 4) 4) j) ∧ X1 = V := by
              rcases hd1 with ⟨z, -⟩ | z
              · exact absurd (z.trans n1_eq.symm) hr1
              · exact z
            refine g_w (congrArg (gw ad ct) hX.2.2) ?_
            refine g_aload_n hx hb d_GV_step_100 rfl rfl ?_
            refine g_getN hx hb hts (in_mw in_PS) hown hK.1 (w_P hn) rfl 8 (by decide) (nst_use hK nw_36 _) rfl d_GV_step_101 ?_
            refine g_iload hx hb d_GV_step_104 rfl ?_
            refine n_icmp_eq (tgt := 111) hx hb d_GV_step_106 (by decide) (by omega) (by omega) (fun heq => ?_) (fun heq => ?_)
            · refine g_aload_n hx hb d_GV_step_111 rfl rfl ?_
              refine g_iconst hx hb d_GV_step_112 k_iconst_2 ?_
              refine g_aload_n hx hb d_GV_step_113 rfl rfl ?_
              refine g_getN hx hb hts (in_mw in_PS) hown hK.1 (w_P hn) rfl 5 (by decide) (nst_use hK nw_31 _) rfl d_GV_step_114 ?_
              refine g_aload_n hx hb d_GV_step_117 rfl rfl ?_
              refine g_get hx hb hts (in_mw in_GV) hown hK.1 w_0 rfl 2 (by decide) (hts _ (List.mem_cons_of_mem _ t_101)) rfl d_GV_step_118 ?_
              refine g_aload_n hx hb d_GV_step_121 rfl rfl ?_
              refine g_getN hx hb hts (in_mw in_PS) hown hK.1 (w_P hn) rfl 5 (by decide) (nst_use hK nw_31 _) rfl d_GV_step_122 ?_
              refine g_iald hx hb hK.1 w_3 0 rfl (show _ < 16 by omega) (by decide) rfl d_GV_step_125 ?_
              refine g_iload hx hb d_GV_step_126 rfl ?_
              refine g_callVNv (C := "GroupViews$ProcessState") (nn := 4) ⟨hx, hb, hml.trans rfl, hown, hts⟩ (ct_PS_setEvent l D ad ct had _ _ _ _ _ _ hn) (mk_VN hK hts nw_221 t_223 ts_PS_setEvent t_2 t_224 rfl rfl (by decide +kernel) ⟨Nat.le_of_ble_eq_true rfl, Nat.le_of_ble_eq_true rfl⟩) hK.1 rfl (w_P hn) rfl (fun _ h => h) (gK_ok D ct) hK (Nat.le_of_ble_eq_true rfl) ⟨Nat.zero_le _, Nat.zero_le _⟩ rfl rfl d_GV_step_128 ?_
              rintro _ rfl
              refine g_aload_n hx hb d_GV_step_131 rfl rfl ?_
              refine g_callVNv (C := "GroupViews$ProcessState") (nn := 0) ⟨hx, hb, hml.trans rfl, hown, hts⟩ (ct_PS_enterPending l D ad ct had _ _ hn) (mk_VN hK hts nw_247 t_249 ts_PS_enterPending t_2 t_250 rfl rfl (by decide +kernel) ⟨Nat.le_of_ble_eq_true rfl, Nat.le_of_ble_eq_true rfl⟩) hK.1 rfl (w_P hn) rfl (fun _ h => h) (gK_ok D ct) hK (Nat.le_of_ble_eq_true rfl) ⟨Nat.zero_le _, Nat.zero_le _⟩ rfl rfl d_GV_step_132 ?_
              rintro _ rfl
              refine g_iconst hx hb d_GV_step_135 k_iconst_2 ?_
              exact g_iret hx hb hr hlk d_GV_step_136 (Or.inr ⟨hn, _, Or.inr (Or.inr (Or.inr ⟨hbl, hpe, hrd, Or.inr ⟨Or.inr ⟨rfl, hX.2.1, rfl⟩, Or.inr ⟨heq, rfl, rfl⟩⟩⟩)), rfl⟩)
            · refine g_iconst hx hb d_GV_step_109 k_iconst_0 ?_
              exact g_iret hx hb hr hlk d_GV_step_110 (Or.inr ⟨hn, _, Or.inr (Or.inr (Or.inr ⟨hbl, hpe, hrd, Or.inr ⟨Or.inr ⟨rfl, hX.2.1, rfl⟩, Or.inl ⟨heq, rfl, rfl⟩⟩⟩)), rfl⟩)
          · have hr1 := hr1.trans n1_eq
            refine g_iconst hx hb d_GV_step_98 k_iconst_1 ?_
            exact g_iret hx hb hr hlk d_GV_step_99 (Or.inr ⟨hn, X1, Or.inr (Or.inr (Or.inr ⟨hbl, hpe, hrd, Or.inl ⟨n1_eq, hr1 ▸ hd1⟩⟩)), rfl⟩)
        · have hrd := bC_0.mp hrd
          refine g_iconst hx hb d_GV_step_65 k_iconst_0 ?_
          exact g_iret hx hb hr hlk d_GV_step_66 (Or.inr ⟨hn, _, Or.inr (Or.inr (Or.inl ⟨hbl, hpe, hrd, rfl, rfl⟩)), rfl⟩)
      · refine g_iconst hx hb d_GV_step_38 k_iconst_0 ?_
        exact g_iret hx hb hr hlk d_GV_step_39 (Or.inr ⟨hn, _, Or.inr (Or.inl ⟨hbl, hpe, rfl, rfl⟩), rfl⟩)
    · refine g_aload_n hx hb d_GV_step_23 rfl rfl ?_
      refine g_aload_n hx hb d_GV_step_24 rfl rfl ?_
      refine g_ldc hx hb d_GV_step_25 hown (hts _ (List.mem_cons_of_mem _ t_208)) ?_
      refine g_val (show _ = nI 67372036 by decide +kernel) ?_
      refine g_callVi (C := "GroupViews") (nn := 2) ⟨hx, hb, hml.trans rfl, hown, hts⟩ (ct_GV_deliverOne l D ad ct had _ _ _ hn ⟨by decide, c4 (by decide) (by decide) (by decide) (by decide)⟩ hcb) (mk_V hts t_209 t_211 ts_GV_deliverOne t_1 t_212 rfl rfl (by decide +kernel) ⟨Nat.le_of_ble_eq_true rfl, Nat.le_of_ble_eq_true rfl⟩) hK.1 rfl w_0 rfl (fun _ h => h) (gK_ok D ct) hK (Nat.le_of_ble_eq_true rfl) ⟨Nat.zero_le _, Nat.zero_le _⟩ rfl rfl d_GV_step_27 ?_
      rintro r1 _ ⟨X1, hd1, rfl⟩
      exact g_iret hx hb hr hlk d_GV_step_30 (Or.inr ⟨hn, X1, Or.inl ⟨hbl, hd1⟩, rfl⟩)
  · have hn := bN_0.mp hn
    refine g_iconst hx hb d_GV_step_7 k_iconst_m1 ?_
    exact g_iret hx hb hr hlk d_GV_step_8 (Or.inl ⟨hn, rfl, rfl⟩)
set_option maxRecDepth 100000 in
set_option maxHeartbeats 4000000 in
theorem ct_GV_view (l : Launch) (D : va_G) (ad : Nat → Nat) (ct : Nat → ClassId) (had : adOk ad) (V : VV) (n : Nat) (h1 : n < 2 ^ 32) : CTi l y_GV_view (mw y_GV_view c_GV_view 2 (some .int)) { frames := 1, cells := 0, slots := 0, locals := 20 } (gK D ct) D vcl (gA ad) [.ref (ad 0), .int (nI n)] (gw ad ct V) (fun r w => (¬ n < 4 ∧ r = -1 ∧ w = gw ad ct V) ∨ (n < 4 ∧ r = nI (V (5 + 8 * n) 0) ∧ w = gw ad ct V)) := by
  refine ct_i (by decide) rfl rfl (Nat.le_of_ble_eq_true rfl) ?_
  intro pg en sx mx blw mth cdx hx hb hr hts hown hlk hml hK
  refine g_L (L' := [_, _]) rfl ?_
  refine g_iload_n hx hb d_GV_view_0 rfl rfl ?_
  refine g_callSi (nn := 1) ⟨hx, hb, hml.trans rfl, hown, hts⟩ (ct_GV_isProcess l D ad ct had _ _ (by omega)) (mk_S hts t_119 t_120 t_1 t_121 rfl rfl (by decide +kernel) ⟨Nat.le_of_ble_eq_true rfl, Nat.le_of_ble_eq_true rfl⟩) (fun _ h => h) (gK_ok D ct) hK (Nat.le_of_ble_eq_true rfl) ⟨Nat.zero_le _, Nat.zero_le _⟩ rfl rfl d_GV_view_1 ?_
  rintro _ _ ⟨rfl, rfl⟩
  refine n_if_eq (tgt := 19) hx hb d_GV_view_4 (by decide) bN_lt (fun hn => ?_) (fun hn => ?_)
  · have hn := bN_0.mp hn
    refine g_iconst hx hb d_GV_view_19 k_iconst_m1 ?_
    exact g_iret hx hb hr hlk d_GV_view_20 (Or.inl ⟨hn, rfl, rfl⟩)
  · have hn := bN_n0.mp hn
    refine g_aload_n hx hb d_GV_view_7 rfl rfl ?_
    refine g_get hx hb hts (in_mw in_GV) hown hK.1 w_0 rfl 0 (by decide) (hts _ (List.mem_cons_of_mem _ t_99)) rfl d_GV_view_8 ?_
    refine g_iload_n hx hb d_GV_view_11 rfl rfl ?_
    refine g_aald hx hb hK.1 w_1 2 rfl hn (by decide) (fP hn) d_GV_view_12 ?_
    refine g_getN hx hb hts (in_mw in_PS) hown hK.1 (w_P hn) rfl 0 (by decide) (nst_use hK nw_24 _) rfl d_GV_view_13 ?_
    refine g_goto (tgt := 20) hx hb d_GV_view_16 (by decide) ?_
    exact g_iret hx hb hr hlk d_GV_view_20 (Or.inr ⟨hn, rfl, rfl⟩)
set_option maxRecDepth 100000 in
set_option maxHeartbeats 4000000 in
theorem ct_GV_pending (l : Launch) (D : va_G) (ad : Nat → Nat) (ct : Nat → ClassId) (had : adOk ad) (V : VV) (n : Nat) (h1 : n < 2 ^ 32) : CTi l y_GV_pending (mw y_GV_pending c_GV_pending 2 (some .int)) { frames := 1, cells := 0, slots := 0, locals := 20 } (gK D ct) D vcl (gA ad) [.ref (ad 0), .int (nI n)] (gw ad ct V) (fun r w => (¬ n < 4 ∧ r = -1 ∧ w = gw ad ct V) ∨ (n < 4 ∧ r = nI (V (5 + 8 * n) 5) ∧ w = gw ad ct V)) := by
  refine ct_i (by decide) rfl rfl (Nat.le_of_ble_eq_true rfl) ?_
  intro pg en sx mx blw mth cdx hx hb hr hts hown hlk hml hK
  refine g_L (L' := [_, _]) rfl ?_
  refine g_iload_n hx hb d_GV_pending_0 rfl rfl ?_
  refine g_callSi (nn := 1) ⟨hx, hb, hml.trans rfl, hown, hts⟩ (ct_GV_isProcess l D ad ct had _ _ (by omega)) (mk_S hts t_119 t_120 t_1 t_121 rfl rfl (by decide +kernel) ⟨Nat.le_of_ble_eq_true rfl, Nat.le_of_ble_eq_true rfl⟩) (fun _ h => h) (gK_ok D ct) hK (Nat.le_of_ble_eq_true rfl) ⟨Nat.zero_le _, Nat.zero_le _⟩ rfl rfl d_GV_pending_1 ?_
  rintro _ _ ⟨rfl, rfl⟩
  refine n_if_eq (tgt := 19) hx hb d_GV_pending_4 (by decide) bN_lt (fun hn => ?_) (fun hn => ?_)
  · have hn := bN_0.mp hn
    refine g_iconst hx hb d_GV_pending_19 k_iconst_m1 ?_
    exact g_iret hx hb hr hlk d_GV_pending_20 (Or.inl ⟨hn, rfl, rfl⟩)
  · have hn := bN_n0.mp hn
    refine g_aload_n hx hb d_GV_pending_7 rfl rfl ?_
    refine g_get hx hb hts (in_mw in_GV) hown hK.1 w_0 rfl 0 (by decide) (hts _ (List.mem_cons_of_mem _ t_99)) rfl d_GV_pending_8 ?_
    refine g_iload_n hx hb d_GV_pending_11 rfl rfl ?_
    refine g_aald hx hb hK.1 w_1 2 rfl hn (by decide) (fP hn) d_GV_pending_12 ?_
    refine g_getN hx hb hts (in_mw in_PS) hown hK.1 (w_P hn) rfl 5 (by decide) (nst_use hK nw_31 _) rfl d_GV_pending_13 ?_
    refine g_goto (tgt := 20) hx hb d_GV_pending_16 (by decide) ?_
    exact g_iret hx hb hr hlk d_GV_pending_20 (Or.inr ⟨hn, rfl, rfl⟩)
set_option maxRecDepth 100000 in
set_option maxHeartbeats 4000000 in
theorem ct_GV_changes (l : Launch) (D : va_G) (ad : Nat → Nat) (ct : Nat → ClassId) (had : adOk ad) (V : VV) (n : Nat) (h1 : n < 2 ^ 32) : CTi l y_GV_changes (mw y_GV_changes c_GV_changes 2 (some .int)) { frames := 1, cells := 0, slots := 0, locals := 20 } (gK D ct) D vcl (gA ad) [.ref (ad 0), .int (nI n)] (gw ad ct V) (fun r w => (¬ n < 4 ∧ r = -1 ∧ w = gw ad ct V) ∨ (n < 4 ∧ r = nI (V (5 + 8 * n) 1) ∧ w = gw ad ct V)) := by
  refine ct_i (by decide) rfl rfl (Nat.le_of_ble_eq_true rfl) ?_
  intro pg en sx mx blw mth cdx hx hb hr hts hown hlk hml hK
  refine g_L (L' := [_, _]) rfl ?_
  refine g_iload_n hx hb d_GV_changes_0 rfl rfl ?_
  refine g_callSi (nn := 1) ⟨hx, hb, hml.trans rfl, hown, hts⟩ (ct_GV_isProcess l D ad ct had _ _ (by omega)) (mk_S hts t_119 t_120 t_1 t_121 rfl rfl (by decide +kernel) ⟨Nat.le_of_ble_eq_true rfl, Nat.le_of_ble_eq_true rfl⟩) (fun _ h => h) (gK_ok D ct) hK (Nat.le_of_ble_eq_true rfl) ⟨Nat.zero_le _, Nat.zero_le _⟩ rfl rfl d_GV_changes_1 ?_
  rintro _ _ ⟨rfl, rfl⟩
  refine n_if_eq (tgt := 19) hx hb d_GV_changes_4 (by decide) bN_lt (fun hn => ?_) (fun hn => ?_)
  · have hn := bN_0.mp hn
    refine g_iconst hx hb d_GV_changes_19 k_iconst_m1 ?_
    exact g_iret hx hb hr hlk d_GV_changes_20 (Or.inl ⟨hn, rfl, rfl⟩)
  · have hn := bN_n0.mp hn
    refine g_aload_n hx hb d_GV_changes_7 rfl rfl ?_
    refine g_get hx hb hts (in_mw in_GV) hown hK.1 w_0 rfl 0 (by decide) (hts _ (List.mem_cons_of_mem _ t_99)) rfl d_GV_changes_8 ?_
    refine g_iload_n hx hb d_GV_changes_11 rfl rfl ?_
    refine g_aald hx hb hK.1 w_1 2 rfl hn (by decide) (fP hn) d_GV_changes_12 ?_
    refine g_getN hx hb hts (in_mw in_PS) hown hK.1 (w_P hn) rfl 1 (by decide) (nst_use hK nw_26 _) rfl d_GV_changes_13 ?_
    refine g_goto (tgt := 20) hx hb d_GV_changes_16 (by decide) ?_
    exact g_iret hx hb hr hlk d_GV_changes_20 (Or.inr ⟨hn, rfl, rfl⟩)
set_option maxRecDepth 100000 in
set_option maxHeartbeats 4000000 in
theorem ct_GV_sent (l : Launch) (D : va_G) (ad : Nat → Nat) (ct : Nat → ClassId) (had : adOk ad) (V : VV) (n : Nat) (h1 : n < 2 ^ 32) : CTi l y_GV_sent (mw y_GV_sent c_GV_sent 2 (some .int)) { frames := 1, cells := 0, slots := 0, locals := 20 } (gK D ct) D vcl (gA ad) [.ref (ad 0), .int (nI n)] (gw ad ct V) (fun r w => (¬ n < 4 ∧ r = -1 ∧ w = gw ad ct V) ∨ (n < 4 ∧ r = nI (V (5 + 8 * n) 7) ∧ w = gw ad ct V)) := by
  refine ct_i (by decide) rfl rfl (Nat.le_of_ble_eq_true rfl) ?_
  intro pg en sx mx blw mth cdx hx hb hr hts hown hlk hml hK
  refine g_L (L' := [_, _]) rfl ?_
  refine g_iload_n hx hb d_GV_sent_0 rfl rfl ?_
  refine g_callSi (nn := 1) ⟨hx, hb, hml.trans rfl, hown, hts⟩ (ct_GV_isProcess l D ad ct had _ _ (by omega)) (mk_S hts t_119 t_120 t_1 t_121 rfl rfl (by decide +kernel) ⟨Nat.le_of_ble_eq_true rfl, Nat.le_of_ble_eq_true rfl⟩) (fun _ h => h) (gK_ok D ct) hK (Nat.le_of_ble_eq_true rfl) ⟨Nat.zero_le _, Nat.zero_le _⟩ rfl rfl d_GV_sent_1 ?_
  rintro _ _ ⟨rfl, rfl⟩
  refine n_if_eq (tgt := 19) hx hb d_GV_sent_4 (by decide) bN_lt (fun hn => ?_) (fun hn => ?_)
  · have hn := bN_0.mp hn
    refine g_iconst hx hb d_GV_sent_19 k_iconst_m1 ?_
    exact g_iret hx hb hr hlk d_GV_sent_20 (Or.inl ⟨hn, rfl, rfl⟩)
  · have hn := bN_n0.mp hn
    refine g_aload_n hx hb d_GV_sent_7 rfl rfl ?_
    refine g_get hx hb hts (in_mw in_GV) hown hK.1 w_0 rfl 0 (by decide) (hts _ (List.mem_cons_of_mem _ t_99)) rfl d_GV_sent_8 ?_
    refine g_iload_n hx hb d_GV_sent_11 rfl rfl ?_
    refine g_aald hx hb hK.1 w_1 2 rfl hn (by decide) (fP hn) d_GV_sent_12 ?_
    refine g_getN hx hb hts (in_mw in_PS) hown hK.1 (w_P hn) rfl 7 (by decide) (nst_use hK nw_34 _) rfl d_GV_sent_13 ?_
    refine g_goto (tgt := 20) hx hb d_GV_sent_16 (by decide) ?_
    exact g_iret hx hb hr hlk d_GV_sent_20 (Or.inr ⟨hn, rfl, rfl⟩)
set_option maxRecDepth 100000 in
set_option maxHeartbeats 4000000 in
theorem ct_GV_event (l : Launch) (D : va_G) (ad : Nat → Nat) (ct : Nat → ClassId) (had : adOk ad) (V : VV) (n i : Nat) (h1 : n < 2 ^ 32) (h2 : i < 2 ^ 32) : CTi l y_GV_event (mw y_GV_event c_GV_event 3 (some .int)) { frames := 1, cells := 0, slots := 0, locals := 20 } (gK D ct) D vcl (gA ad) [.ref (ad 0), .int (nI n), .int (nI i)] (gw ad ct V) (fun r w => (¬ (n < 4 ∧ i < 4) ∧ r = 0 ∧ w = gw ad ct V) ∨ ((n < 4 ∧ i < 4) ∧ r = nI (V (5 + 8 * n + 7) i) ∧ w = gw ad ct V)) := by
  refine ct_i (by decide) rfl rfl (Nat.le_of_ble_eq_true rfl) ?_
  intro pg en sx mx blw mth cdx hx hb hr hts hown hlk hml hK
  refine g_L (L' := [_, _, _]) rfl ?_
  refine g_iload_n hx hb d_GV_event_0 rfl rfl ?_
  refine g_callSi (nn := 1) ⟨hx, hb, hml.trans rfl, hown, hts⟩ (ct_GV_isProcess l D ad ct had _ _ (by omega)) (mk_S hts t_119 t_120 t_1 t_121 rfl rfl (by decide +kernel) ⟨Nat.le_of_ble_eq_true rfl, Nat.le_of_ble_eq_true rfl⟩) (fun _ h => h) (gK_ok D ct) hK (Nat.le_of_ble_eq_true rfl) ⟨Nat.zero_le _, Nat.zero_le _⟩ rfl rfl d_GV_event_1 ?_
  rintro _ _ ⟨rfl, rfl⟩
  refine n_if_eq (tgt := 16) hx hb d_GV_event_4 (by decide) bN_lt (fun hn => ?_) (fun hn => ?_)
  · have hn := bN_0.mp hn
    refine g_iconst hx hb d_GV_event_16 k_iconst_0 ?_
    exact g_iret hx hb hr hlk d_GV_event_17 (Or.inl ⟨by omega, rfl, rfl⟩)
  · have hn := bN_n0.mp hn
    refine g_iload_n hx hb d_GV_event_7 rfl rfl ?_
    refine g_if_lt (tgt := 16) hx hb d_GV_event_8 (by decide) (fun hi0 => ?_) (fun hi0 => ?_)
    · have hi0 := (q_lt0 h2).mp hi0
      refine g_iconst hx hb d_GV_event_16 k_iconst_0 ?_
      exact g_iret hx hb hr hlk d_GV_event_17 (Or.inl ⟨by omega, rfl, rfl⟩)
    · have hi0 : i < 2 ^ 31 := Nat.not_le.mp (fun z => hi0 ((q_lt0 h2).mpr z))
      refine g_iload_n hx hb d_GV_event_11 rfl rfl ?_
      refine g_iconst hx hb d_GV_event_12 k_iconst_3 ?_
      refine n_icmp_le (tgt := 18) hx hb d_GV_event_13 (by decide) (by omega) (by omega) (fun hi3 => ?_) (fun hi3 => ?_)
      · refine g_aload_n hx hb d_GV_event_18 rfl rfl ?_
        refine g_get hx hb hts (in_mw in_GV) hown hK.1 w_0 rfl 0 (by decide) (hts _ (List.mem_cons_of_mem _ t_99)) rfl d_GV_event_19 ?_
        refine g_iload_n hx hb d_GV_event_22 rfl rfl ?_
        refine g_aald hx hb hK.1 w_1 2 rfl hn (by decide) (fP hn) d_GV_event_23 ?_
        refine g_getN hx hb hts (in_mw in_PS) hown hK.1 (w_P hn) rfl 15 (by decide) (nst_use hK nw_49 _) rfl d_GV_event_24 ?_
        refine g_iload_n hx hb d_GV_event_27 rfl rfl ?_
        refine g_iald hx hb hK.1 (w_Pa (k := 7) hn (by decide) (by decide)) 0 rfl (show _ < 4 by omega) (by decide) rfl d_GV_event_28 ?_
        exact g_iret hx hb hr hlk d_GV_event_29 (Or.inr ⟨by omega, rfl, rfl⟩)
      · refine g_iconst hx hb d_GV_event_16 k_iconst_0 ?_
        exact g_iret hx hb hr hlk d_GV_event_17 (Or.inl ⟨by omega, rfl, rfl⟩)
set_option maxRecDepth 100000 in
set_option maxHeartbeats 4000000 in
theorem ct_GV_members (l : Launch) (D : va_G) (ad : Nat → Nat) (ct : Nat → ClassId) (had : adOk ad) (V : VV) (v : Nat) (h2 : v < 2 ^ 32) (hcb : CB V) : CTi l y_GV_members (mw y_GV_members c_GV_members 2 (some .int)) { frames := 1, cells := 0, slots := 0, locals := 21 } (gK D ct) D vcl (gA ad) [.ref (ad 0), .int (nI v)] (gw ad ct V) (fun r w => (¬ (1 ≤ v ∧ v ≤ V 0 4) ∧ r = 0 ∧ w = gw ad ct V) ∨ ((1 ≤ v ∧ v ≤ V 0 4) ∧ r = nI (V 3 v) ∧ w = gw ad ct V)) := by
  refine ct_i (by decide) rfl rfl (Nat.le_of_ble_eq_true rfl) ?_
  intro pg en sx mx blw mth cdx hx hb hr hts hown hlk hml hK
  refine g_L (L' := [_, _]) rfl ?_
  have hf := hcb.f
  refine g_aload_n hx hb d_GV_members_0 rfl rfl ?_
  refine g_iload_n hx hb d_GV_members_1 rfl rfl ?_
  refine g_callVi (C := "GroupViews") (nn := 1) ⟨hx, hb, hml.trans rfl, hown, hts⟩ (ct_GV_isFormed l D ad ct had _ _ (by omega) (by omega)) (mk_V hts t_176 t_178 ts_GV_isFormed t_1 t_179 rfl rfl (by decide +kernel) ⟨Nat.le_of_ble_eq_true rfl, Nat.le_of_ble_eq_true rfl⟩) hK.1 rfl w_0 rfl (fun _ h => h) (gK_ok D ct) hK (Nat.le_of_ble_eq_true rfl) ⟨Nat.zero_le _, Nat.zero_le _⟩ rfl rfl d_GV_members_2 ?_
  rintro _ _ ⟨rfl, rfl⟩
  refine n_if_eq (tgt := 17) hx hb d_GV_members_5 (by decide) bN_lt (fun hn => ?_) (fun hn => ?_)
  · have hn := bN_0.mp hn
    refine g_iconst hx hb d_GV_members_17 k_iconst_0 ?_
    exact g_iret hx hb hr hlk d_GV_members_18 (Or.inl ⟨hn, rfl, rfl⟩)
  · have hn := bN_n0.mp hn
    refine g_aload_n hx hb d_GV_members_8 rfl rfl ?_
    refine g_get hx hb hts (in_mw in_GV) hown hK.1 w_0 rfl 2 (by decide) (hts _ (List.mem_cons_of_mem _ t_101)) rfl d_GV_members_9 ?_
    refine g_iload_n hx hb d_GV_members_12 rfl rfl ?_
    refine g_iald hx hb hK.1 w_3 0 rfl (show _ < 16 by omega) (by decide) rfl d_GV_members_13 ?_
    refine g_goto (tgt := 18) hx hb d_GV_members_14 (by decide) ?_
    exact g_iret hx hb hr hlk d_GV_members_18 (Or.inr ⟨hn, rfl, rfl⟩)
set_option maxRecDepth 100000 in
set_option maxHeartbeats 4000000 in
theorem ct_GV_start (l : Launch) (D : va_G) (ad : Nat → Nat) (ct : Nat → ClassId) (had : adOk ad) (V : VV) (v n : Nat) (h2 : v < 2 ^ 32) (h1 : n < 2 ^ 32) (hcb : CB V) : CTi l y_GV_start (mw y_GV_start c_GV_start 3 (some .int)) { frames := 1, cells := 0, slots := 0, locals := 21 } (gK D ct) D vcl (gA ad) [.ref (ad 0), .int (nI v), .int (nI n)] (gw ad ct V) (fun r w => (¬ ((1 ≤ v ∧ v ≤ V 0 4) ∧ n < 4) ∧ r = 0 ∧ w = gw ad ct V) ∨ (((1 ≤ v ∧ v ≤ V 0 4) ∧ n < 4) ∧ r = nI (V 4 (v * 4 + n)) ∧ w = gw ad ct V)) := by
  refine ct_i (by decide) rfl rfl (Nat.le_of_ble_eq_true rfl) ?_
  intro pg en sx mx blw mth cdx hx hb hr hts hown hlk hml hK
  refine g_L (L' := [_, _, _]) rfl ?_
  have hf := hcb.f
  refine g_aload_n hx hb d_GV_start_0 rfl rfl ?_
  refine g_iload_n hx hb d_GV_start_1 rfl rfl ?_
  refine g_callVi (C := "GroupViews") (nn := 1) ⟨hx, hb, hml.trans rfl, hown, hts⟩ (ct_GV_isFormed l D ad ct had _ _ (by omega) (by omega)) (mk_V hts t_176 t_178 ts_GV_isFormed t_1 t_179 rfl rfl (by decide +kernel) ⟨Nat.le_of_ble_eq_true rfl, Nat.le_of_ble_eq_true rfl⟩) hK.1 rfl w_0 rfl (fun _ h => h) (gK_ok D ct) hK (Nat.le_of_ble_eq_true rfl) ⟨Nat.zero_le _, Nat.zero_le _⟩ rfl rfl d_GV_start_2 ?_
  rintro _ _ ⟨rfl, rfl⟩
  refine n_if_eq (tgt := 28) hx hb d_GV_start_5 (by decide) bN_lt (fun hfo => ?_) (fun hfo => ?_)
  · have hfo := bN_0.mp hfo
    refine g_iconst hx hb d_GV_start_28 k_iconst_0 ?_
    exact g_iret hx hb hr hlk d_GV_start_29 (Or.inl ⟨by omega, rfl, rfl⟩)
  · have hfo := bN_n0.mp hfo
    refine g_iload_n hx hb d_GV_start_8 rfl rfl ?_
    refine g_callSi (nn := 1) ⟨hx, hb, hml.trans rfl, hown, hts⟩ (ct_GV_isProcess l D ad ct had _ _ (by omega)) (mk_S hts t_119 t_120 t_1 t_121 rfl rfl (by decide +kernel) ⟨Nat.le_of_ble_eq_true rfl, Nat.le_of_ble_eq_true rfl⟩) (fun _ h => h) (gK_ok D ct) hK (Nat.le_of_ble_eq_true rfl) ⟨Nat.zero_le _, Nat.zero_le _⟩ rfl rfl d_GV_start_9 ?_
    rintro _ _ ⟨rfl, rfl⟩
    refine n_if_eq (tgt := 28) hx hb d_GV_start_12 (by decide) bN_lt (fun hn => ?_) (fun hn => ?_)
    · have hn := bN_0.mp hn
      refine g_iconst hx hb d_GV_start_28 k_iconst_0 ?_
      exact g_iret hx hb hr hlk d_GV_start_29 (Or.inl ⟨by omega, rfl, rfl⟩)
    · have hn := bN_n0.mp hn
      refine g_aload_n hx hb d_GV_start_15 rfl rfl ?_
      refine g_get hx hb hts (in_mw in_GV) hown hK.1 w_0 rfl 3 (by decide) (hts _ (List.mem_cons_of_mem _ t_102)) rfl d_GV_start_16 ?_
      refine g_iload_n hx hb d_GV_start_19 rfl rfl ?_
      refine g_iload_n hx hb d_GV_start_20 rfl rfl ?_
      refine g_callSi (nn := 2) ⟨hx, hb, hml.trans rfl, hown, hts⟩ (ct_GV_startIndex l D ad ct had _ _ _) (mk_S hts t_169 t_170 t_1 t_171 rfl rfl (by decide +kernel) ⟨Nat.le_of_ble_eq_true rfl, Nat.le_of_ble_eq_true rfl⟩) (fun _ h => h) (gK_ok D ct) hK (Nat.le_of_ble_eq_true rfl) ⟨Nat.zero_le _, Nat.zero_le _⟩ rfl rfl d_GV_start_21 ?_
      rintro _ _ ⟨rfl, rfl⟩
      refine g_iald hx hb hK.1 w_4 0 rfl (show _ < 64 by omega) (by decide) rfl d_GV_start_24 ?_
      refine g_goto (tgt := 29) hx hb d_GV_start_25 (by decide) ?_
      exact g_iret hx hb hr hlk d_GV_start_29 (Or.inr ⟨⟨hfo, hn⟩, rfl, rfl⟩)
set_option maxRecDepth 100000 in
set_option maxHeartbeats 4000000 in
theorem ct_GV_blocked (l : Launch) (D : va_G) (ad : Nat → Nat) (ct : Nat → ClassId) (had : adOk ad) (V : VV) (n : Nat) (h1 : n < 2 ^ 32) (hcb : CB V) : CTi l y_GV_blocked (mw y_GV_blocked c_GV_blocked 2 (some .boolean)) { frames := 1, cells := 0, slots := 0, locals := 20 } (gK D ct) D vcl (gA ad) [.ref (ad 0), .int (nI n)] (gw ad ct V) (fun r w => (¬ n < 4 ∧ r = 0 ∧ w = gw ad ct V) ∨ (n < 4 ∧ r = nI (V (5 + 8 * n) 4) ∧ w = gw ad ct V)) := by
  refine ct_i (by decide) rfl rfl (Nat.le_of_ble_eq_true rfl) ?_
  intro pg en sx mx blw mth cdx hx hb hr hts hown hlk hml hK
  refine g_L (L' := [_, _]) rfl ?_
  refine g_iload_n hx hb d_GV_blocked_0 rfl rfl ?_
  refine g_callSi (nn := 1) ⟨hx, hb, hml.trans rfl, hown, hts⟩ (ct_GV_isProcess l D ad ct had _ _ (by omega)) (mk_S hts t_119 t_120 t_1 t_121 rfl rfl (by decide +kernel) ⟨Nat.le_of_ble_eq_true rfl, Nat.le_of_ble_eq_true rfl⟩) (fun _ h => h) (gK_ok D ct) hK (Nat.le_of_ble_eq_true rfl) ⟨Nat.zero_le _, Nat.zero_le _⟩ rfl rfl d_GV_blocked_1 ?_
  rintro _ _ ⟨rfl, rfl⟩
  refine n_if_eq (tgt := 23) hx hb d_GV_blocked_4 (by decide) bN_lt (fun hn => ?_) (fun hn => ?_)
  · have hn := bN_0.mp hn
    refine g_iconst hx hb d_GV_blocked_23 k_iconst_0 ?_
    exact g_zret hx hb hr hlk (by decide +kernel) d_GV_blocked_24 (Or.inl ⟨hn, rfl, rfl⟩)
  · have hn := bN_n0.mp hn
    have hpa := hcb.p n hn
    have hde := hpa.2.2.2.2.2.2.2.2
    refine g_aload_n hx hb d_GV_blocked_7 rfl rfl ?_
    refine g_get hx hb hts (in_mw in_GV) hown hK.1 w_0 rfl 0 (by decide) (hts _ (List.mem_cons_of_mem _ t_99)) rfl d_GV_blocked_8 ?_
    refine g_iload_n hx hb d_GV_blocked_11 rfl rfl ?_
    refine g_aald hx hb hK.1 w_1 2 rfl hn (by decide) (fP hn) d_GV_blocked_12 ?_
    refine g_getN hx hb hts (in_mw in_PS) hown hK.1 (w_P hn) rfl 4 (by decide) (nst_use hK nw_29 _) rfl d_GV_blocked_13 ?_
    refine n_if_eq (tgt := 23) hx hb d_GV_blocked_16 (by decide) (by omega) (fun hbl => ?_) (fun hbl => ?_)
    · refine g_iconst hx hb d_GV_blocked_23 k_iconst_0 ?_
      exact g_zret hx hb hr hlk (by decide +kernel) d_GV_blocked_24 (Or.inr ⟨hn, congrArg nI (by omega), rfl⟩)
    · refine g_iconst hx hb d_GV_blocked_19 k_iconst_1 ?_
      refine g_goto (tgt := 24) hx hb d_GV_blocked_20 (by decide) ?_
      exact g_zret hx hb hr hlk (by decide +kernel) d_GV_blocked_24 (Or.inr ⟨hn, congrArg nI (by omega), rfl⟩)
set_option maxRecDepth 100000 in
set_option maxHeartbeats 4000000 in
theorem ct_GV_delivered (l : Launch) (D : va_G) (ad : Nat → Nat) (ct : Nat → ClassId) (had : adOk ad) (V : VV) (n q : Nat) (h1 : n < 2 ^ 32) (h2 : q < 2 ^ 32) (hcb : CB V) : CTi l y_GV_delivered (mw y_GV_delivered c_GV_delivered 3 (some .int)) { frames := 1, cells := 0, slots := 0, locals := 21 } (gK D ct) D vcl (gA ad) [.ref (ad 0), .int (nI n), .int (nI q)] (gw ad ct V) (fun r w => (¬ (n < 4 ∧ q < 4) ∧ r = -1 ∧ w = gw ad ct V) ∨ ((n < 4 ∧ q < 4) ∧ r = nI (cnt (V (5 + 8 * n) 8) q) ∧ w = gw ad ct V)) := by
  refine ct_i (by decide) rfl rfl (Nat.le_of_ble_eq_true rfl) ?_
  intro pg en sx mx blw mth cdx hx hb hr hts hown hlk hml hK
  refine g_L (L' := [_, _, _]) rfl ?_
  refine g_iload_n hx hb d_GV_delivered_0 rfl rfl ?_
  refine g_callSi (nn := 1) ⟨hx, hb, hml.trans rfl, hown, hts⟩ (ct_GV_isProcess l D ad ct had _ _ (by omega)) (mk_S hts t_119 t_120 t_1 t_121 rfl rfl (by decide +kernel) ⟨Nat.le_of_ble_eq_true rfl, Nat.le_of_ble_eq_true rfl⟩) (fun _ h => h) (gK_ok D ct) hK (Nat.le_of_ble_eq_true rfl) ⟨Nat.zero_le _, Nat.zero_le _⟩ rfl rfl d_GV_delivered_1 ?_
  rintro _ _ ⟨rfl, rfl⟩
  refine n_if_eq (tgt := 14) hx hb d_GV_delivered_4 (by decide) bN_lt (fun hn => ?_) (fun hn => ?_)
  · have hn := bN_0.mp hn
    refine g_iconst hx hb d_GV_delivered_14 k_iconst_m1 ?_
    exact g_iret hx hb hr hlk d_GV_delivered_15 (Or.inl ⟨by omega, rfl, rfl⟩)
  · have hn := bN_n0.mp hn
    have hpa := hcb.p n hn
    have hde := hpa.2.2.2.2.2.2.2.2
    have lde := pkd_lt hde
    refine g_iload_n hx hb d_GV_delivered_7 rfl rfl ?_
    refine g_callSi (nn := 1) ⟨hx, hb, hml.trans rfl, hown, hts⟩ (ct_GV_isProcess l D ad ct had _ _ (by omega)) (mk_S hts t_119 t_120 t_1 t_121 rfl rfl (by decide +kernel) ⟨Nat.le_of_ble_eq_true rfl, Nat.le_of_ble_eq_true rfl⟩) (fun _ h => h) (gK_ok D ct) hK (Nat.le_of_ble_eq_true rfl) ⟨Nat.zero_le _, Nat.zero_le _⟩ rfl rfl d_GV_delivered_8 ?_
    rintro _ _ ⟨rfl, rfl⟩
    refine n_if_ne (tgt := 16) hx hb d_GV_delivered_11 (by decide) bN_lt (fun hq => ?_) (fun hq => ?_)
    · have hq := bN_n0.mp hq
      refine g_aload_n hx hb d_GV_delivered_16 rfl rfl ?_
      refine g_get hx hb hts (in_mw in_GV) hown hK.1 w_0 rfl 0 (by decide) (hts _ (List.mem_cons_of_mem _ t_99)) rfl d_GV_delivered_17 ?_
      refine g_iload_n hx hb d_GV_delivered_20 rfl rfl ?_
      refine g_aald hx hb hK.1 w_1 2 rfl hn (by decide) (fP hn) d_GV_delivered_21 ?_
      refine g_getN hx hb hts (in_mw in_PS) hown hK.1 (w_P hn) rfl 8 (by decide) (nst_use hK nw_36 _) rfl d_GV_delivered_22 ?_
      refine g_iload_n hx hb d_GV_delivered_25 rfl rfl ?_
      refine g_callSi (nn := 2) ⟨hx, hb, hml.trans rfl, hown, hts⟩ (ct_GV_countOf l D ad ct had _ _ _ (by omega) (by omega)) (mk_S hts t_201 t_202 t_1 t_203 rfl rfl (by decide +kernel) ⟨Nat.le_of_ble_eq_true rfl, Nat.le_of_ble_eq_true rfl⟩) (fun _ h => h) (gK_ok D ct) hK (Nat.le_of_ble_eq_true rfl) ⟨Nat.zero_le _, Nat.zero_le _⟩ rfl rfl d_GV_delivered_26 ?_
      rintro _ _ ⟨rfl, rfl⟩
      exact g_iret hx hb hr hlk d_GV_delivered_29 (Or.inr ⟨⟨hn, hq⟩, rfl, rfl⟩)
    · have hq := bN_0.mp hq
      refine g_iconst hx hb d_GV_delivered_14 k_iconst_m1 ?_
      exact g_iret hx hb hr hlk d_GV_delivered_15 (Or.inl ⟨by omega, rfl, rfl⟩)
set_option maxRecDepth 100000 in
set_option maxHeartbeats 4000000 in
theorem ct_GV_known (l : Launch) (D : va_G) (ad : Nat → Nat) (ct : Nat → ClassId) (had : adOk ad) (V : VV) (n q : Nat) (h1 : n < 2 ^ 32) (h2 : q < 2 ^ 32) (hcb : CB V) : CTi l y_GV_known (mw y_GV_known c_GV_known 3 (some .int)) { frames := 2, cells := 0, slots := 0, locals := 41 } (gK D ct) D vcl (gA ad) [.ref (ad 0), .int (nI n), .int (nI q)] (gw ad ct V) (fun r w => (¬ (n < 4 ∧ q < 4) ∧ r = -1 ∧ w = gw ad ct V) ∨ ((n < 4 ∧ q < 4) ∧ r = nI (popc (V (5 + 8 * n + 1) (V (5 + 8 * n) 0 * 4 + q))) ∧ w = gw ad ct V)) := by
  refine ct_i (by decide) rfl rfl (Nat.le_of_ble_eq_true rfl) ?_
  intro pg en sx mx blw mth cdx hx hb hr hts hown hlk hml hK
  refine g_L (L' := [_, _, _]) rfl ?_
  refine g_iload_n hx hb d_GV_known_0 rfl rfl ?_
  refine g_callSi (nn := 1) ⟨hx, hb, hml.trans rfl, hown, hts⟩ (ct_GV_isProcess l D ad ct had _ _ (by omega)) (mk_S hts t_119 t_120 t_1 t_121 rfl rfl (by decide +kernel) ⟨Nat.le_of_ble_eq_true rfl, Nat.le_of_ble_eq_true rfl⟩) (fun _ h => h) (gK_ok D ct) hK (Nat.le_of_ble_eq_true rfl) ⟨Nat.zero_le _, Nat.zero_le _⟩ rfl rfl d_GV_known_1 ?_
  rintro _ _ ⟨rfl, rfl⟩
  refine n_if_eq (tgt := 14) hx hb d_GV_known_4 (by decide) bN_lt (fun hn => ?_) (fun hn => ?_)
  · have hn := bN_0.mp hn
    refine g_iconst hx hb d_GV_known_14 k_iconst_m1 ?_
    exact g_iret hx hb hr hlk d_GV_known_15 (Or.inl ⟨by omega, rfl, rfl⟩)
  · have hn := bN_n0.mp hn
    have hpa := hcb.p n hn
    have hde := hpa.2.2.2.2.2.2.2.2
    refine g_iload_n hx hb d_GV_known_7 rfl rfl ?_
    refine g_callSi (nn := 1) ⟨hx, hb, hml.trans rfl, hown, hts⟩ (ct_GV_isProcess l D ad ct had _ _ (by omega)) (mk_S hts t_119 t_120 t_1 t_121 rfl rfl (by decide +kernel) ⟨Nat.le_of_ble_eq_true rfl, Nat.le_of_ble_eq_true rfl⟩) (fun _ h => h) (gK_ok D ct) hK (Nat.le_of_ble_eq_true rfl) ⟨Nat.zero_le _, Nat.zero_le _⟩ rfl rfl d_GV_known_8 ?_
    rintro _ _ ⟨rfl, rfl⟩
    refine n_if_ne (tgt := 16) hx hb d_GV_known_11 (by decide) bN_lt (fun hq => ?_) (fun hq => ?_)
    · have hq := bN_n0.mp hq
      refine g_aload_n hx hb d_GV_known_16 rfl rfl ?_
      refine g_get hx hb hts (in_mw in_GV) hown hK.1 w_0 rfl 0 (by decide) (hts _ (List.mem_cons_of_mem _ t_99)) rfl d_GV_known_17 ?_
      refine g_iload_n hx hb d_GV_known_20 rfl rfl ?_
      refine g_aald hx hb hK.1 w_1 2 rfl hn (by decide) (fP hn) d_GV_known_21 ?_
      refine g_iload_n hx hb d_GV_known_22 rfl rfl ?_
      refine g_callVNi (C := "GroupViews$ProcessState") (nn := 1) ⟨hx, hb, hml.trans rfl, hown, hts⟩ (ct_PS_messagesKnownOf l D ad ct had _ _ _ hn (by omega) (hcb.kn n _ hn (by omega))) (mk_VN hK hts nw_291 t_293 ts_PS_messagesKnownOf t_2 t_294 rfl rfl (by decide +kernel) ⟨Nat.le_of_ble_eq_true rfl, Nat.le_of_ble_eq_true rfl⟩) hK.1 rfl (w_P hn) rfl (fun _ h => h) (gK_ok D ct) hK (Nat.le_of_ble_eq_true rfl) ⟨Nat.zero_le _, Nat.zero_le _⟩ rfl rfl d_GV_known_23 ?_
      rintro _ _ ⟨rfl, rfl⟩
      exact g_iret hx hb hr hlk d_GV_known_26 (Or.inr ⟨⟨hn, hq⟩, rfl, rfl⟩)
    · have hq := bN_0.mp hq
      refine g_iconst hx hb d_GV_known_14 k_iconst_m1 ?_
      exact g_iret hx hb hr hlk d_GV_known_15 (Or.inl ⟨by omega, rfl, rfl⟩)
set_option maxRecDepth 100000 in
set_option maxHeartbeats 4000000 in
theorem ct_GV_waiting (l : Launch) (D : va_G) (ad : Nat → Nat) (ct : Nat → ClassId) (had : adOk ad) (V : VV) (p q : Nat) (h1 : p < 2 ^ 32) (h2 : q < 2 ^ 32) (hcb : CB V) : CTi l y_GV_waiting (mw y_GV_waiting c_GV_waiting 3 (some .int)) { frames := 2, cells := 0, slots := 0, locals := 41 } (gK D ct) D vcl (gA ad) [.ref (ad 0), .int (nI p), .int (nI q)] (gw ad ct V) (fun r w => (¬ (p < 4 ∧ q < 4 ∧ ¬ p = q) ∧ r = -1 ∧ w = gw ad ct V) ∨ ((p < 4 ∧ q < 4 ∧ ¬ p = q) ∧ r = nI (V (37 + 2 * (p * 4 + q)) 2 - V (37 + 2 * (p * 4 + q)) 1) ∧ w = gw ad ct V)) := by
  refine ct_i (by decide) rfl rfl (Nat.le_of_ble_eq_true rfl) ?_
  intro pg en sx mx blw mth cdx hx hb hr hts hown hlk hml hK
  refine g_L (L' := [_, _, _]) rfl ?_
  refine g_iload_n hx hb d_GV_waiting_0 rfl rfl ?_
  refine g_iload_n hx hb d_GV_waiting_1 rfl rfl ?_
  refine g_callSi (nn := 2) ⟨hx, hb, hml.trans rfl, hown, hts⟩ (ct_GV_isLine l D ad ct had _ _ _ (by omega) (by omega)) (mk_S hts t_184 t_185 t_1 t_186 rfl rfl (by decide +kernel) ⟨Nat.le_of_ble_eq_true rfl, Nat.le_of_ble_eq_true rfl⟩) (fun _ h => h) (gK_ok D ct) hK (Nat.le_of_ble_eq_true rfl) ⟨Nat.zero_le _, Nat.zero_le _⟩ rfl rfl d_GV_waiting_2 ?_
  rintro _ _ ⟨rfl, rfl⟩
  refine n_if_eq (tgt := 24) hx hb d_GV_waiting_5 (by decide) bN_lt (fun hn => ?_) (fun hn => ?_)
  · have hn := bN_0.mp hn
    refine g_iconst hx hb d_GV_waiting_24 k_iconst_m1 ?_
    exact g_iret hx hb hr hlk d_GV_waiting_25 (Or.inl ⟨hn, rfl, rfl⟩)
  · have hn := bN_n0.mp hn
    refine g_aload_n hx hb d_GV_waiting_8 rfl rfl ?_
    refine g_get hx hb hts (in_mw in_GV) hown hK.1 w_0 rfl 1 (by decide) (hts _ (List.mem_cons_of_mem _ t_100)) rfl d_GV_waiting_9 ?_
    refine g_iload_n hx hb d_GV_waiting_12 rfl rfl ?_
    refine g_iload_n hx hb d_GV_waiting_13 rfl rfl ?_
    refine g_callSi (nn := 2) ⟨hx, hb, hml.trans rfl, hown, hts⟩ (ct_GV_lineIndex l D ad ct had _ _ _) (mk_S hts t_143 t_144 t_1 t_145 rfl rfl (by decide +kernel) ⟨Nat.le_of_ble_eq_true rfl, Nat.le_of_ble_eq_true rfl⟩) (fun _ h => h) (gK_ok D ct) hK (Nat.le_of_ble_eq_true rfl) ⟨Nat.zero_le _, Nat.zero_le _⟩ rfl rfl d_GV_waiting_14 ?_
    rintro _ _ ⟨rfl, rfl⟩
    refine g_aald hx hb hK.1 w_2 3 rfl (by omega) (by decide) (fL (by omega)) d_GV_waiting_17 ?_
    refine g_callVNi (C := "GroupViews$Line") (nn := 0) ⟨hx, hb, hml.trans rfl, hown, hts⟩ (ct_LN_length l D ad ct had _ _ (by omega) (hcb.ln (p * 4 + q) (by omega)).1) (mk_VN hK hts nw_305 t_307 ts_LN_length t_3 t_308 rfl rfl (by decide +kernel) ⟨Nat.le_of_ble_eq_true rfl, Nat.le_of_ble_eq_true rfl⟩) hK.1 rfl (w_L (by omega)) rfl (fun _ h => h) (gK_ok D ct) hK (Nat.le_of_ble_eq_true rfl) ⟨Nat.zero_le _, Nat.zero_le _⟩ rfl rfl d_GV_waiting_18 ?_
    rintro _ _ ⟨rfl, rfl⟩
    refine g_goto (tgt := 25) hx hb d_GV_waiting_21 (by decide) ?_
    exact g_iret hx hb hr hlk d_GV_waiting_25 (Or.inr ⟨hn, rfl, rfl⟩)
end
section
theorem BD.p {Y : VV} (h : BD Y) : ∀ p, p < 4 → Y 70 p ≤ Y 69 10 ∧ Y 71 p ≤ 15 ∧ Y 72 p < 16 ∧ Y 73 p ≤ 1 ∧ Y 74 p ≤ 1 ∧ Y 75 p ≤ Y 69 10 ∧ Y 76 p ≤ 15 ∧ Y 77 p ≤ 4 ∧ Y 70 p ≤ Y 76 p ∧ (Y 75 p = 0 ∨ (Y 70 p < Y 75 p ∧ Y 75 p ≤ Y 76 p)) := h.1
theorem BD.v {Y : VV} (h : BD Y) : Y 69 10 ≤ 15 := h.2.1
theorem BD.d {Y : VV} (h : BD Y) : ∀ i, Y 78 i ≤ 4 := h.2.2.1
theorem BD.m {Y : VV} (h : BD Y) : ∀ i, Y 80 i < 16 := h.2.2.2.1
theorem BD.s {Y : VV} (h : BD Y) : ∀ i, Y 81 i ≤ 15 := h.2.2.2.2.1
theorem BD.vc {Y : VV} (h : BD Y) : ∀ i, Y 83 i ≤ 4 := h.2.2.2.2.2.1
theorem BD.kn {Y : VV} (h : BD Y) : ∀ i, Y 84 i ≤ 1 := h.2.2.2.2.2.2.1
theorem BD.sv {Y : VV} (h : BD Y) : ∀ i, Y 85 i ≤ 15 := h.2.2.2.2.2.2.2.1
theorem BD.cu {Y : VV} (h : BD Y) : ∀ i, Y 86 i ≤ 4 := h.2.2.2.2.2.2.2.2.1
theorem BD.he {Y : VV} (h : BD Y) : ∀ i, Y 87 i ≤ 1 := h.2.2.2.2.2.2.2.2.2.1
theorem BD.rsm {Y Z : VV} (h : BD Y) (hs : rsm Y Z) : BD Z := by
  have hs : ∀ c k, c ≠ 90 → ¬ (c = 69 ∧ k = 22) → Z c k = Y c k := hs
  unfold BD
  simp (disch := omega) only [hs]
  exact h
/-- what the reference's walk needs beyond BD: the lines -/
def RB (Y : VV) : Prop := BD Y ∧ ∀ i, i < 16 → Y 89 i ≤ 75 ∧ (0 < Y 89 i → Y 88 (80 * i) < 320)
theorem Rel.rb {X Y : VV} (h : Rel X Y) : RB Y := by
  refine ⟨h.2.2.2.2.2.2.2.2, fun i hi => ?_⟩
  obtain ⟨a1, a2, a3, a4⟩ := h.2.2.2.2.2.2.2.1 (i / 4) (i % 4) (by omega) (by omega)
  have hc := cap_le h.2.2.2.2.2.2.2.2 (p := i / 4) (by omega)
  rw [show 4 * (i / 4) + i % 4 = i by omega] at a3 a4
  refine ⟨by omega, fun h0 => ?_⟩
  obtain ⟨b1, b2⟩ := a4 _ (Nat.le_refl _) (by omega)
  simp only [Nat.sub_self, Nat.add_zero] at b2
  rw [← b2]
  unfold tr
  split <;> omega
theorem rps_lt {Y : VV} (h : BD Y) {p : Nat} (hp : p < 4) : rps Y p < 16 := by
  unfold rps
  split
  · show 2 ^ p < 2 ^ 4
    exact Nat.pow_lt_pow_right (by decide) hp
  · exact h.m _
theorem rpo_len {Y : VV} {p set x j : Nat} : ∀ q, q ≤ j → rpo Y p set x q 89 (4 * p + j) = Y 89 (4 * p + j)
  | 0, _ => rfl
  | q + 1, hq => by
    rw [rpo]
    split
    · rw [pt_nk (by omega), pt_ne (by decide), rpo_len q (by omega)]
    · exact rpo_len q (by omega)
theorem q_ge {x lo : Nat} (h : x < 2 ^ 32) (hl : lo < 2 ^ 31) (hc : ¬ nI x < nI lo) : lo ≤ x ∧ x < 2 ^ 31 := by
  by_cases hn : x < 2 ^ 31
  · refine ⟨?_, hn⟩
    rcases Nat.lt_or_ge x lo with z | z
    · exact absurd (nI_lt z hl) hc
    · exact z
  · exfalso
    apply hc
    have h1 := (q_lt0 h).mpr (by omega)
    have e1 := Int32.lt_iff_toInt_lt.mp h1
    have e0 : (0 : Int32).toInt = 0 := rfl
    have e2 : (nI lo).toInt = lo := nI_toInt hl
    rw [Int32.lt_iff_toInt_lt]
    omega
theorem q_le0 {a : Nat} (h : a < 2 ^ 31) : nI a ≤ 0 ↔ a = 0 := by
  have e := nI_leI (a := a) (b := 0) h (by decide)
  rw [show nI 0 = 0 by decide +kernel] at e
  rw [e]
  omega
theorem rlq_le {Y : VV} {p v both : Nat} (h86 : ∀ i, Y 86 i ≤ 4) (h90 : ∀ r, r < 4 → Y 90 r ≤ 4) : ∀ q r, r < 4 → rlq Y p v both q 90 r ≤ 4
  | 0, r, hr => h90 r hr
  | q + 1, r, hr => by
    have ih := rlq_le (p := p) (v := v) (both := both) h86 h90 q r hr
    rw [rlq]
    split
    · exact ih
    · rw [rlr_at, pt_ne (by decide), pt_ne (by decide)]
      split
      · rw [rlq_ne (by decide) (by omega)]
        exact h86 _
      · exact ih
theorem rlim_ok {Y Z : VV} {p h : Nat} (hb : BD Y) (hl : rlim Y p h Z) : rsm Y Z ∧ h ≤ 2 ∧ (¬ h = 0 → ∀ j, j < 4 → Z 90 j ≤ 4) := by
  rcases hl with ⟨rfl, -, rfl⟩ | ⟨rfl, -, -, hs⟩ | ⟨rfl, -, -, -, hs⟩ | ⟨rfl, -, -, -, rfl⟩
  · refine ⟨fun c k z1 z2 => ?_, by decide, fun _ j hj => ?_⟩
    · rw [rl0_ne z1]
      exact (rsm.rfl'.put69 0) c k z1 z2
    · rw [rl0_at, if_pos hj]
      exact Nat.le_refl _
  · exact ⟨hs, by decide, fun z => absurd rfl z⟩
  · exact ⟨hs, by decide, fun z => absurd rfl z⟩
  · refine ⟨fun c k z1 z2 => ?_, Nat.le_refl _, fun _ j hj => ?_⟩
    · rw [rlq_ne z1 z2, rl0_ne z1]
      exact (rsm.rfl'.put69 0) c k z1 z2
    · refine rlq_le (fun i => ?_) (fun r hr => ?_) 4 j hj
      · rw [rl0_ne (by decide), pt_ne (by decide)]
        exact hb.cu i
      · rw [rl0_at, if_pos hr]
        exact Nat.zero_le _
theorem rfo_ne {Y : VV} {set n c k : Nat} (h : c ≠ 81) (h2 : c ≠ 73) : ∀ q, rfo Y set n q c k = Y c k
  | 0 => rfl
  | q + 1 => by
    rw [rfo]
    split
    · rw [pt_ne h2, pt_ne h, rfo_ne h h2 q]
    · exact rfo_ne h h2 q
def rcn (Y : VV) (b : Nat) : Nat → Nat
  | 0 => 0
  | k + 1 => if Y 84 (b + k) = 0 then rcn Y b k else rcn Y b k + 1
theorem rcn_le {Y : VV} {b : Nat} : ∀ k, rcn Y b k ≤ k
  | 0 => Nat.le_refl _
  | k + 1 => by
    have := rcn_le (Y := Y) (b := b) k
    rw [rcn]
    split <;> omega
end
section
set_option maxRecDepth 100000 in
set_option maxHeartbeats 4000000 in
theorem ct_MD_within (l : Launch) (D : va_G) (ad : Nat → Nat) (ct : Nat → ClassId) (had : adOk ad) (V : VV) (x lo hi : Nat) (h : x < 2 ^ 32) (h1 : lo < 2 ^ 31) (h2 : hi < 2 ^ 31) : CTi l y_MD_within (mw y_MD_within c_MD_within 3 (some .boolean)) { frames := 0, cells := 0, slots := 0, locals := 0 } (gK D ct) D vcl (gA ad) [.int (nI x), .int (nI lo), .int (nI hi)] (gw ad ct V) (fun r w => r = nI (bN (lo ≤ x ∧ x ≤ hi)) ∧ w = gw ad ct V) := by
  refine ct_i (by decide) rfl rfl (Nat.le_of_ble_eq_true rfl) ?_
  intro pg en sx mx blw mth cdx hx hb hr hts hown hlk hml hK
  refine g_L (L' := [_, _, _]) rfl ?_
  refine g_iload_n hx hb d_MD_within_0 rfl rfl ?_
  refine g_iload_n hx hb d_MD_within_1 rfl rfl ?_
  refine g_icmp_lt (tgt := 14) hx hb d_MD_within_2 (by decide) (fun hc1 => ?_) (fun hc1 => ?_)
  · have hc1 : ¬ (lo ≤ x ∧ x ≤ hi) := fun z => (nI_nlt z.1 (by omega)) hc1
    refine g_iconst hx hb d_MD_within_14 k_iconst_0 ?_
    exact g_zret hx hb hr hlk (by decide +kernel) d_MD_within_15 (⟨by first | rw [bN_t (by omega)] | rw [bN_f (by omega)], rfl⟩)
  · have hc1 := q_ge h h1 hc1
    refine g_iload_n hx hb d_MD_within_5 rfl rfl ?_
    refine g_iload_n hx hb d_MD_within_6 rfl rfl ?_
    refine n_icmp_gt (tgt := 14) hx hb d_MD_within_7 (by decide) (by omega) (by omega) (fun hc2 => ?_) (fun hc2 => ?_)
    · refine g_iconst hx hb d_MD_within_14 k_iconst_0 ?_
      exact g_zret hx hb hr hlk (by decide +kernel) d_MD_within_15 (⟨by first | rw [bN_t (by omega)] | rw [bN_f (by omega)], rfl⟩)
    · refine g_iconst hx hb d_MD_within_10 k_iconst_1 ?_
      refine g_goto (tgt := 15) hx hb d_MD_within_11 (by decide) ?_
      exact g_zret hx hb hr hlk (by decide +kernel) d_MD_within_15 (⟨by first | rw [bN_t (by omega)] | rw [bN_f (by omega)], rfl⟩)
set_option maxRecDepth 100000 in
set_option maxHeartbeats 4000000 in
theorem ct_MD_present (l : Launch) (D : va_G) (ad : Nat → Nat) (ct : Nat → ClassId) (had : adOk ad) (V : VV) (p : Nat) (hp : p < 4) (hv : V 70 p ≤ 15) : CTi l y_MD_present (mw y_MD_present c_MD_present 2 (some .int)) { frames := 0, cells := 0, slots := 0, locals := 0 } (gK D ct) D vcl (gA ad) [.ref (ad 69), .int (nI p)] (gw ad ct V) (fun r w => r = nI (rps V p) ∧ w = gw ad ct V) := by
  refine ct_i (by decide) rfl rfl (Nat.le_of_ble_eq_true rfl) ?_
  intro pg en sx mx blw mth cdx hx hb hr hts hown hlk hml hK
  refine g_L (L' := [_, _]) rfl ?_
  refine g_aload_n hx hb d_MD_present_0 rfl rfl ?_
  refine g_get hx hb hts (in_mw in_MD) hown hK.1 w_M rfl 0 (by decide) (hts _ (List.mem_cons_of_mem _ t_315)) rfl d_MD_present_1 ?_
  refine g_iload_n hx hb d_MD_present_4 rfl rfl ?_
  refine g_iald hx hb hK.1 (w_Ma (c := 70) (by decide) (by decide)) 0 rfl (show _ < 4 by omega) (by decide) rfl d_MD_present_5 ?_
  refine n_if_ne (tgt := 15) hx hb d_MD_present_6 (by decide) (by omega) (fun hc1 => ?_) (fun hc1 => ?_)
  · refine g_aload_n hx hb d_MD_present_15 rfl rfl ?_
    refine g_get hx hb hts (in_mw in_MD) hown hK.1 w_M rfl 11 (by decide) (hts _ (List.mem_cons_of_mem _ t_326)) rfl d_MD_present_16 ?_
    refine g_aload_n hx hb d_MD_present_19 rfl rfl ?_
    refine g_get hx hb hts (in_mw in_MD) hown hK.1 w_M rfl 0 (by decide) (hts _ (List.mem_cons_of_mem _ t_315)) rfl d_MD_present_20 ?_
    refine g_iload_n hx hb d_MD_present_23 rfl rfl ?_
    refine g_iald hx hb hK.1 (w_Ma (c := 70) (by decide) (by decide)) 0 rfl (show _ < 4 by omega) (by decide) rfl d_MD_present_24 ?_
    refine g_iald hx hb hK.1 (w_Ma (c := 80) (by decide) (by decide)) 0 rfl (show _ < 16 by omega) (by decide) rfl d_MD_present_25 ?_
    exact g_iret hx hb hr hlk d_MD_present_26 (⟨by unfold rps; rw [if_neg hc1], rfl⟩)
  · refine g_iconst hx hb d_MD_present_9 k_iconst_1 ?_
    refine g_iload_n hx hb d_MD_present_10 rfl rfl ?_
    refine n_ishl hx hb d_MD_present_11 (by omega) (q_p32 (by omega)) ?_
    refine g_goto (tgt := 26) hx hb d_MD_present_12 (by decide) ?_
    exact g_iret hx hb hr hlk d_MD_present_26 (⟨by unfold rps; rw [if_pos hc1, Nat.one_mul], rfl⟩)
set_option maxRecDepth 100000 in
set_option maxHeartbeats 4000000 in
theorem ct_MD_put (l : Launch) (D : va_G) (ad : Nat → Nat) (ct : Nat → ClassId) (had : adOk ad) (V : VV) (p set x : Nat) (hp : p < 4) (hs : set < 2 ^ 31) (hE : ∀ j, j < 4 → V 89 (4 * p + j) ≤ 79) : CTv l y_MD_put (mw y_MD_put c_MD_put 5 none) { frames := 0, cells := 0, slots := 0, locals := 0 } (gK D ct) D vcl (gA ad) [.ref (ad 69), .int (nI p), .int (nI set), .int (nI x)] (gw ad ct V) (fun w => w = gw ad ct (rpo V p set x 4)) := by
  refine ct_v (by decide) rfl rfl (Nat.le_of_ble_eq_true rfl) ?_
  intro pg en sx mx blw mth cdx hx hb hr hts hown hlk hml hK
  refine g_L (L' := [_, _, _, _, _]) rfl ?_
  refine g_iconst hx hb d_MD_put_0 k_iconst_0 ?_
  refine g_istore (L' := [_, _, _, _, _]) hx hb d_MD_put_1 (Nat.le_of_ble_eq_true rfl) rfl ?_
  refine g_loop 4 (fun q => gw ad ct (rpo V p set x q)) (fun q => [some (.ref (ad 69)), some (.int (nI p)), some (.int (nI set)), some (.int (nI x)), some (.int (nI q))]) (fun q => True) 0 (by omega) trivial rfl rfl ?_
  intro q hq0_q hqE_q hI_q ih_q
  try dsimp only
  refine g_iload hx hb d_MD_put_3 rfl ?_
  refine g_iconst hx hb d_MD_put_5 k_iconst_4 ?_
  refine n_icmp_ge (tgt := 75) hx hb d_MD_put_6 (by decide) (by omega) (by omega) (fun hc1 => ?_) (fun hc1 => ?_)
  · have hq4 : q = 4 := by omega
    subst hq4
    exact g_vret hx hb hr hlk d_MD_put_75 (rfl)
  · have hq : q < 4 := by omega
    have hl := hE q hq
    have hl2 := rpo_len (Y := V) (p := p) (set := set) (x := x) (j := q) q (Nat.le_refl _)
    refine g_iload hx hb d_MD_put_9 rfl ?_
    refine g_iload_n hx hb d_MD_put_11 rfl rfl ?_
    refine n_icmp_eq (tgt := 69) hx hb d_MD_put_12 (by decide) (by omega) (by omega) (fun heq => ?_) (fun heq => ?_)
    · refine n_iinc (L' := [_, _, _, _, _]) hx hb d_MD_put_69 rfl rfl ?_
      refine g_goto (tgt := 3) hx hb d_MD_put_72 (by decide) ?_
      refine g_w (congrArg (gw ad ct) (show _ = rpo V p set x (q + 1) from by rw [rpo, if_neg (fun z => z.1 heq)])) ?_
      exact ih_q (by omega) trivial
    · refine g_iload_n hx hb d_MD_put_15 rfl rfl ?_
      refine g_iload hx hb d_MD_put_16 rfl ?_
      refine n_ishr hx hb d_MD_put_18 (by omega) (by omega) ?_
      refine g_iconst hx hb d_MD_put_19 k_iconst_1 ?_
      refine n_iand hx hb d_MD_put_20 ?_
      refine g_val (show nI _ = nI (set / 2 ^ q % 2) from congrArg nI (Nat.and_one_is_mod _)) ?_
      refine n_if_ne (tgt := 27) hx hb d_MD_put_21 (by decide) (by omega) (fun hbit => ?_) (fun hbit => ?_)
      · refine g_aload_n hx hb d_MD_put_27 rfl rfl ?_
        refine g_get hx hb hts (in_mw in_MD) hown hK.1 w_M rfl 19 (by decide) (hts _ (List.mem_cons_of_mem _ t_334)) rfl d_MD_put_28 ?_
        refine g_bipush hx hb d_MD_put_31 k_bipush_80 ?_
        refine g_iconst hx hb d_MD_put_33 k_iconst_4 ?_
        refine g_iload_n hx hb d_MD_put_34 rfl rfl ?_
        refine n_imul hx hb d_MD_put_35 ?_
        refine g_iload hx hb d_MD_put_36 rfl ?_
        refine n_iadd hx hb d_MD_put_38 ?_
        refine n_imul hx hb d_MD_put_39 ?_
        refine g_aload_n hx hb d_MD_put_40 rfl rfl ?_
        refine g_get hx hb hts (in_mw in_MD) hown hK.1 w_M rfl 20 (by decide) (hts _ (List.mem_cons_of_mem _ t_335)) rfl d_MD_put_41 ?_
        refine g_iconst hx hb d_MD_put_44 k_iconst_4 ?_
        refine g_iload_n hx hb d_MD_put_45 rfl rfl ?_
        refine n_imul hx hb d_MD_put_46 ?_
        refine g_iload hx hb d_MD_put_47 rfl ?_
        refine n_iadd hx hb d_MD_put_49 ?_
        refine g_iald hx hb hK.1 (w_Ma (c := 89) (by decide) (by decide)) 0 rfl (show _ < 16 by omega) (by decide) rfl d_MD_put_50 ?_
        refine n_iadd hx hb d_MD_put_51 ?_
        refine g_iload_n hx hb d_MD_put_52 rfl rfl ?_
        refine g_iast hx hb hK.1 (gw_D had) (w_Ma (c := 88) (by decide) (by decide)) 0 rfl (show _ < 1280 by omega) (by decide) d_MD_put_53 (s_Ma (c := 88) (by decide) (by decide) _ _) ?_
        refine g_aload_n hx hb d_MD_put_54 rfl rfl ?_
        refine g_get hx hb hts (in_mw in_MD) hown hK.1 w_M rfl 20 (by decide) (hts _ (List.mem_cons_of_mem _ t_335)) rfl d_MD_put_55 ?_
        refine g_iconst hx hb d_MD_put_58 k_iconst_4 ?_
        refine g_iload_n hx hb d_MD_put_59 rfl rfl ?_
        refine n_imul hx hb d_MD_put_60 ?_
        refine g_iload hx hb d_MD_put_61 rfl ?_
        refine n_iadd hx hb d_MD_put_63 ?_
        refine g_dup2 hx hb d_MD_put_64 rfl rfl ?_
        refine g_iald hx hb hK.1 (w_Ma (c := 89) (by decide) (by decide)) 0 rfl (show _ < 16 by omega) (by decide) rfl d_MD_put_65 ?_
        refine g_val (show nI _ = nI ((rpo V p set x q) 89 ((4 * p) + q)) from congrArg nI (by simp (disch := omega) only [pt_eq, pt_ne, pt_nk])) ?_
        refine g_iconst hx hb d_MD_put_66 k_iconst_1 ?_
        refine n_iadd hx hb d_MD_put_67 ?_
        refine g_iast hx hb hK.1 (gw_D had) (w_Ma (c := 89) (by decide) (by decide)) 0 rfl (show _ < 16 by omega) (by decide) d_MD_put_68 (s_Ma (c := 89) (by decide) (by decide) _ _) ?_
        refine n_iinc (L' := [_, _, _, _, _]) hx hb d_MD_put_69 rfl rfl ?_
        refine g_goto (tgt := 3) hx hb d_MD_put_72 (by decide) ?_
        refine g_w (congrArg (gw ad ct) (show _ = rpo V p set x (q + 1) from by rw [rpo, if_pos ⟨heq, hbit⟩])) ?_
        exact ih_q (by omega) trivial
      · refine g_goto (tgt := 69) hx hb d_MD_put_24 (by decide) ?_
        refine n_iinc (L' := [_, _, _, _, _]) hx hb d_MD_put_69 rfl rfl ?_
        refine g_goto (tgt := 3) hx hb d_MD_put_72 (by decide) ?_
        refine g_w (congrArg (gw ad ct) (show _ = rpo V p set x (q + 1) from by rw [rpo, if_neg (fun z => z.2 hbit)])) ?_
        exact ih_q (by omega) trivial
set_option maxRecDepth 100000 in
set_option maxHeartbeats 4000000 in
theorem ct_MD_note (l : Launch) (D : va_G) (ad : Nat → Nat) (ct : Nat → ClassId) (had : adOk ad) (V : VV) (p a b d f : Nat) (hp : p < 4) : CTv l y_MD_note (mw y_MD_note c_MD_note 6 none) { frames := 0, cells := 0, slots := 0, locals := 0 } (gK D ct) D vcl (gA ad) [.ref (ad 69), .int (nI p), .int (nI a), .int (nI b), .int (nI d), .int (nI f)] (gw ad ct V) (fun w => w = gw ad ct (rev V p a b d f)) := by
  refine ct_v (by decide) rfl rfl (Nat.le_of_ble_eq_true rfl) ?_
  intro pg en sx mx blw mth cdx hx hb hr hts hown hlk hml hK
  refine g_L (L' := [_, _, _, _, _, _]) rfl ?_
  refine g_aload_n hx hb d_MD_note_0 rfl rfl ?_
  refine g_get hx hb hts (in_mw in_MD) hown hK.1 w_M rfl 9 (by decide) (hts _ (List.mem_cons_of_mem _ t_324)) rfl d_MD_note_1 ?_
  refine g_iconst hx hb d_MD_note_4 k_iconst_4 ?_
  refine g_iload_n hx hb d_MD_note_5 rfl rfl ?_
  refine n_imul hx hb d_MD_note_6 ?_
  refine g_iload_n hx hb d_MD_note_7 rfl rfl ?_
  refine g_iast hx hb hK.1 (gw_D had) (w_Ma (c := 79) (by decide) (by decide)) 0 rfl (show _ < 16 by omega) (by decide) d_MD_note_8 (s_Ma (c := 79) (by decide) (by decide) _ _) ?_
  refine g_aload_n hx hb d_MD_note_9 rfl rfl ?_
  refine g_get hx hb hts (in_mw in_MD) hown hK.1 w_M rfl 9 (by decide) (hts _ (List.mem_cons_of_mem _ t_324)) rfl d_MD_note_10 ?_
  refine g_iconst hx hb d_MD_note_13 k_iconst_4 ?_
  refine g_iload_n hx hb d_MD_note_14 rfl rfl ?_
  refine n_imul hx hb d_MD_note_15 ?_
  refine g_iconst hx hb d_MD_note_16 k_iconst_1 ?_
  refine n_iadd hx hb d_MD_note_17 ?_
  refine g_iload_n hx hb d_MD_note_18 rfl rfl ?_
  refine g_iast hx hb hK.1 (gw_D had) (w_Ma (c := 79) (by decide) (by decide)) 0 rfl (show _ < 16 by omega) (by decide) d_MD_note_19 (s_Ma (c := 79) (by decide) (by decide) _ _) ?_
  refine g_aload_n hx hb d_MD_note_20 rfl rfl ?_
  refine g_get hx hb hts (in_mw in_MD) hown hK.1 w_M rfl 9 (by decide) (hts _ (List.mem_cons_of_mem _ t_324)) rfl d_MD_note_21 ?_
  refine g_iconst hx hb d_MD_note_24 k_iconst_4 ?_
  refine g_iload_n hx hb d_MD_note_25 rfl rfl ?_
  refine n_imul hx hb d_MD_note_26 ?_
  refine g_iconst hx hb d_MD_note_27 k_iconst_2 ?_
  refine n_iadd hx hb d_MD_note_28 ?_
  refine g_iload hx hb d_MD_note_29 rfl ?_
  refine g_iast hx hb hK.1 (gw_D had) (w_Ma (c := 79) (by decide) (by decide)) 0 rfl (show _ < 16 by omega) (by decide) d_MD_note_31 (s_Ma (c := 79) (by decide) (by decide) _ _) ?_
  refine g_aload_n hx hb d_MD_note_32 rfl rfl ?_
  refine g_get hx hb hts (in_mw in_MD) hown hK.1 w_M rfl 9 (by decide) (hts _ (List.mem_cons_of_mem _ t_324)) rfl d_MD_note_33 ?_
  refine g_iconst hx hb d_MD_note_36 k_iconst_4 ?_
  refine g_iload_n hx hb d_MD_note_37 rfl rfl ?_
  refine n_imul hx hb d_MD_note_38 ?_
  refine g_iconst hx hb d_MD_note_39 k_iconst_3 ?_
  refine n_iadd hx hb d_MD_note_40 ?_
  refine g_iload hx hb d_MD_note_41 rfl ?_
  refine g_iast hx hb hK.1 (gw_D had) (w_Ma (c := 79) (by decide) (by decide)) 0 rfl (show _ < 16 by omega) (by decide) d_MD_note_43 (s_Ma (c := 79) (by decide) (by decide) _ _) ?_
  exact g_vret hx hb hr hlk d_MD_note_44 (rfl)
set_option maxRecDepth 100000 in
set_option maxHeartbeats 4000000 in
theorem ct_MD_send (l : Launch) (D : va_G) (ad : Nat → Nat) (ct : Nat → ClassId) (had : adOk ad) (V : VV) (n x : Nat) (h1 : n < 2 ^ 32) (hrb : RB V) : CTi l y_MD_send (mw y_MD_send c_MD_send 5 (some .int)) { frames := 1, cells := 0, slots := 0, locals := 24 } (gK D ct) D vcl (gA ad) [.ref (ad 69), .int (nI n), .int (nI x)] (gw ad ct V) (fun r w => (¬ n < 4 ∧ r = -1 ∧ w = gw ad ct V) ∨ (n < 4 ∧ r = (rSend V n x).1 ∧ w = gw ad ct (rSend V n x).2)) := by
  refine ct_i (by decide) rfl rfl (Nat.le_of_ble_eq_true rfl) ?_
  intro pg en sx mx blw mth cdx hx hb hr hts hown hlk hml hK
  refine g_L (L' := [_, _, _, _, _]) rfl ?_
  refine g_iload_n hx hb d_MD_send_0 rfl rfl ?_
  refine g_iconst hx hb d_MD_send_1 k_iconst_0 ?_
  refine g_iconst hx hb d_MD_send_2 k_iconst_3 ?_
  refine g_callSi (nn := 3) ⟨hx, hb, hml.trans rfl, hown, hts⟩ (ct_MD_within l D ad ct had _ _ _ _ (by omega) (by omega) (by omega)) (mk_S hts t_390 t_391 t_4 t_392 rfl rfl (by decide +kernel) ⟨Nat.le_of_ble_eq_true rfl, Nat.le_of_ble_eq_true rfl⟩) (fun _ h => h) (gK_ok D ct) hK (Nat.le_of_ble_eq_true rfl) ⟨Nat.zero_le _, Nat.zero_le _⟩ rfl rfl d_MD_send_3 ?_
  rintro _ _ ⟨rfl, rfl⟩
  refine n_if_ne (tgt := 11) hx hb d_MD_send_6 (by decide) bN_lt (fun hn => ?_) (fun hn => ?_)
  · have hn := bN_n0.mp hn
    have hn : n < 4 := by omega
    have hpa := hrb.1.p n hn
    have hv15 := hrb.1.v
    refine g_aload_n hx hb d_MD_send_11 rfl rfl ?_
    refine g_get hx hb hts (in_mw in_MD) hown hK.1 w_M rfl 4 (by decide) (hts _ (List.mem_cons_of_mem _ t_319)) rfl d_MD_send_12 ?_
    refine g_iload_n hx hb d_MD_send_15 rfl rfl ?_
    refine g_zald hx hb hK.1 (w_Ma (c := 74) (by decide) (by decide)) 1 rfl (show _ < 4 by omega) (by decide) rfl d_MD_send_16 ?_
    refine n_if_eq (tgt := 23) hx hb d_MD_send_17 (by decide) (by omega) (fun hbl => ?_) (fun hbl => ?_)
    · refine g_aload_n hx hb d_MD_send_23 rfl rfl ?_
      refine g_get hx hb hts (in_mw in_MD) hown hK.1 w_M rfl 7 (by decide) (hts _ (List.mem_cons_of_mem _ t_322)) rfl d_MD_send_24 ?_
      refine g_iload_n hx hb d_MD_send_27 rfl rfl ?_
      refine g_iald hx hb hK.1 (w_Ma (c := 77) (by decide) (by decide)) 0 rfl (show _ < 4 by omega) (by decide) rfl d_MD_send_28 ?_
      refine g_iconst hx hb d_MD_send_29 k_iconst_4 ?_
      refine n_icmp_ne (tgt := 36) hx hb d_MD_send_30 (by decide) (by omega) (by omega) (fun hse => ?_) (fun hse => ?_)
      · refine g_bipush hx hb d_MD_send_36 k_bipush_16 ?_
        refine g_aload_n hx hb d_MD_send_38 rfl rfl ?_
        refine g_get hx hb hts (in_mw in_MD) hown hK.1 w_M rfl 0 (by decide) (hts _ (List.mem_cons_of_mem _ t_315)) rfl d_MD_send_39 ?_
        refine g_iload_n hx hb d_MD_send_42 rfl rfl ?_
        refine g_iald hx hb hK.1 (w_Ma (c := 70) (by decide) (by decide)) 0 rfl (show _ < 4 by omega) (by decide) rfl d_MD_send_43 ?_
        refine n_imul hx hb d_MD_send_44 ?_
        refine g_iconst hx hb d_MD_send_45 k_iconst_4 ?_
        refine g_iload_n hx hb d_MD_send_46 rfl rfl ?_
        refine n_imul hx hb d_MD_send_47 ?_
        refine n_iadd hx hb d_MD_send_48 ?_
        refine g_aload_n hx hb d_MD_send_49 rfl rfl ?_
        refine g_get hx hb hts (in_mw in_MD) hown hK.1 w_M rfl 7 (by decide) (hts _ (List.mem_cons_of_mem _ t_322)) rfl d_MD_send_50 ?_
        refine g_iload_n hx hb d_MD_send_53 rfl rfl ?_
        refine g_iald hx hb hK.1 (w_Ma (c := 77) (by decide) (by decide)) 0 rfl (show _ < 4 by omega) (by decide) rfl d_MD_send_54 ?_
        refine n_iadd hx hb d_MD_send_55 ?_
        refine g_istore_n (L' := [_, _, _, _, _]) hx hb d_MD_send_56 rfl (Nat.le_of_ble_eq_true rfl) rfl ?_
        refine g_aload_n hx hb d_MD_send_57 rfl rfl ?_
        refine g_get hx hb hts (in_mw in_MD) hown hK.1 w_M rfl 7 (by decide) (hts _ (List.mem_cons_of_mem _ t_322)) rfl d_MD_send_58 ?_
        refine g_iload_n hx hb d_MD_send_61 rfl rfl ?_
        refine g_dup2 hx hb d_MD_send_62 rfl rfl ?_
        refine g_iald hx hb hK.1 (w_Ma (c := 77) (by decide) (by decide)) 0 rfl (show _ < 4 by omega) (by decide) rfl d_MD_send_63 ?_
        refine g_iconst hx hb d_MD_send_64 k_iconst_1 ?_
        refine n_iadd hx hb d_MD_send_65 ?_
        refine g_iast hx hb hK.1 (gw_D had) (w_Ma (c := 77) (by decide) (by decide)) 0 rfl (show _ < 4 by omega) (by decide) d_MD_send_66 (s_Ma (c := 77) (by decide) (by decide) _ _) ?_
        refine g_aload_n hx hb d_MD_send_67 rfl rfl ?_
        refine g_get hx hb hts (in_mw in_MD) hown hK.1 w_M rfl 13 (by decide) (hts _ (List.mem_cons_of_mem _ t_328)) rfl d_MD_send_68 ?_
        refine g_iload_n hx hb d_MD_send_71 rfl rfl ?_
        refine g_iload_n hx hb d_MD_send_72 rfl rfl ?_
        refine g_iast hx hb hK.1 (gw_D had) (w_Ma (c := 82) (by decide) (by decide)) 0 rfl (show _ < 256 by omega) (by decide) d_MD_send_73 (s_Ma (c := 82) (by decide) (by decide) _ _) ?_
        refine g_iconst hx hb d_MD_send_74 k_iconst_0 ?_
        refine g_istore (L' := [_, _, _, _, _]) hx hb d_MD_send_75 (Nat.le_of_ble_eq_true rfl) rfl ?_
        refine g_loop 4 (fun r => gw ad ct (rvc (pt (pt V 77 n (V 77 n + 1)) 82 (16 * V 70 n + 4 * n + V 77 n) x) n (16 * V 70 n + 4 * n + V 77 n) r)) (fun r => [some (.ref (ad 69)), some (.int (nI n)), some (.int (nI x)), some (.int (nI (((16 * (V 70 n)) + (4 * n)) + (V 77 n)))), some (.int (nI r))]) (fun r => True) 0 (by omega) trivial rfl rfl ?_
        intro r hq0_r hqE_r hI_r ih_r
        try dsimp only
        refine g_iload hx hb d_MD_send_77 rfl ?_
        refine g_iconst hx hb d_MD_send_79 k_iconst_4 ?_
        refine n_icmp_ge (tgt := 121) hx hb d_MD_send_80 (by decide) (by omega) (by omega) (fun hc1 => ?_) (fun hc1 => ?_)
        · have hr4 : r = 4 := by omega
          subst hr4
          refine g_aload_n hx hb d_MD_send_121 rfl rfl ?_
          refine g_get hx hb hts (in_mw in_MD) hown hK.1 w_M rfl 15 (by decide) (hts _ (List.mem_cons_of_mem _ t_330)) rfl d_MD_send_122 ?_
          refine g_sipush hx hb d_MD_send_125 k_sipush_256 ?_
          refine g_iload_n hx hb d_MD_send_128 rfl rfl ?_
          refine n_imul hx hb d_MD_send_129 ?_
          refine g_iload_n hx hb d_MD_send_130 rfl rfl ?_
          refine n_iadd hx hb d_MD_send_131 ?_
          refine g_iconst hx hb d_MD_send_132 k_iconst_1 ?_
          refine g_zast hx hb hK.1 (gw_D had) (w_Ma (c := 84) (by decide) (by decide)) 1 rfl (show _ < 1024 by omega) (by decide) d_MD_send_133 (by decide +kernel) (s_Ma (c := 84) (by decide) (by decide) _ _) ?_
          refine g_aload_n hx hb d_MD_send_134 rfl rfl ?_
          refine g_iload_n hx hb d_MD_send_135 rfl rfl ?_
          refine g_aload_n hx hb d_MD_send_136 rfl rfl ?_
          refine g_iload_n hx hb d_MD_send_137 rfl rfl ?_
          refine g_callVi (C := "GroupViewsModel") (nn := 1) ⟨hx, hb, hml.trans rfl, hown, hts⟩ (ct_MD_present l D ad ct had _ _ (by omega) (by simp (disch := omega) only [pt_eq, pt_ne, pt_nk, rvc_ne]; omega)) (mk_V hts t_393 t_395 ts_MD_present t_4 t_396 rfl rfl (by decide +kernel) ⟨Nat.le_of_ble_eq_true rfl, Nat.le_of_ble_eq_true rfl⟩) hK.1 rfl w_M rfl (fun _ h => h) (gK_ok D ct) hK (Nat.le_of_ble_eq_true rfl) ⟨Nat.zero_le _, Nat.zero_le _⟩ rfl rfl d_MD_send_138 ?_
          rintro _ _ ⟨rfl, rfl⟩
          refine g_val (show nI _ = nI (rps V n) from congrArg nI (by unfold rps; simp (disch := omega) only [pt_eq, pt_ne, pt_nk, rvc_ne])) ?_
          refine g_iload_n hx hb d_MD_send_141 rfl rfl ?_
          refine g_callVv (C := "GroupViewsModel") (nn := 3) ⟨hx, hb, hml.trans rfl, hown, hts⟩ (ct_MD_put l D ad ct had _ _ _ _ hn (Nat.lt_trans (rps_lt hrb.1 hn) (by decide)) (fun j hj => by simp (disch := omega) only [pt_eq, pt_ne, pt_nk, rvc_ne]; have := (hrb.2 (4 * n + j) (by omega)).1; omega)) (mk_V hts t_397 t_399 ts_MD_put t_4 t_400 rfl rfl (by decide +kernel) ⟨Nat.le_of_ble_eq_true rfl, Nat.le_of_ble_eq_true rfl⟩) hK.1 rfl w_M rfl (fun _ h => h) (gK_ok D ct) hK (Nat.le_of_ble_eq_true rfl) ⟨Nat.zero_le _, Nat.zero_le _⟩ rfl rfl d_MD_send_142 ?_
          rintro _ rfl
          refine g_aload_n hx hb d_MD_send_145 rfl rfl ?_
          refine g_get hx hb hts (in_mw in_MD) hown hK.1 w_M rfl 7 (by decide) (hts _ (List.mem_cons_of_mem _ t_322)) rfl d_MD_send_146 ?_
          refine g_iload_n hx hb d_MD_send_149 rfl rfl ?_
          refine g_iald hx hb hK.1 (w_Ma (c := 77) (by decide) (by decide)) 0 rfl (show _ < 4 by omega) (by decide) rfl d_MD_send_150 ?_
          refine g_val (show nI _ = nI (V 77 n + 1) from congrArg nI (by rw [rpo_ne (by decide) (by decide)]; simp (disch := omega) only [pt_eq, pt_ne, pt_nk, rvc_ne])) ?_
          have hS : rSend V n x = (nI (V 77 n + 1), rpo (pt (rvc (pt (pt V 77 n (V 77 n + 1)) 82 (16 * V 70 n + 4 * n + V 77 n) x) n (16 * V 70 n + 4 * n + V 77 n) 4) 84 (256 * n + (16 * V 70 n + 4 * n + V 77 n)) 1) n (rps V n) (16 * V 70 n + 4 * n + V 77 n) 4) := by unfold rSend; rw [if_neg (not_not_intro hbl), if_neg hse]
          exact g_iret hx hb hr hlk d_MD_send_151 (Or.inr ⟨hn, by rw [hS] <;> first | exact n0_eq | exact n1_eq | exact n2_eq, by rw [hS]⟩)
        · refine g_aload_n hx hb d_MD_send_83 rfl rfl ?_
          refine g_get hx hb hts (in_mw in_MD) hown hK.1 w_M rfl 14 (by decide) (hts _ (List.mem_cons_of_mem _ t_329)) rfl d_MD_send_84 ?_
          refine g_iconst hx hb d_MD_send_87 k_iconst_4 ?_
          refine g_iload_n hx hb d_MD_send_88 rfl rfl ?_
          refine n_imul hx hb d_MD_send_89 ?_
          refine g_iload hx hb d_MD_send_90 rfl ?_
          refine n_iadd hx hb d_MD_send_92 ?_
          refine g_iload hx hb d_MD_send_93 rfl ?_
          refine g_iload_n hx hb d_MD_send_95 rfl rfl ?_
          refine n_icmp_ne (tgt := 103) hx hb d_MD_send_96 (by decide) (by omega) (by omega) (fun heq => ?_) (fun heq => ?_)
          · refine g_aload_n hx hb d_MD_send_103 rfl rfl ?_
            refine g_get hx hb hts (in_mw in_MD) hown hK.1 w_M rfl 8 (by decide) (hts _ (List.mem_cons_of_mem _ t_323)) rfl d_MD_send_104 ?_
            refine g_iconst hx hb d_MD_send_107 k_iconst_4 ?_
            refine g_iload_n hx hb d_MD_send_108 rfl rfl ?_
            refine n_imul hx hb d_MD_send_109 ?_
            refine g_iload hx hb d_MD_send_110 rfl ?_
            refine n_iadd hx hb d_MD_send_112 ?_
            refine g_iald hx hb hK.1 (w_Ma (c := 78) (by decide) (by decide)) 0 rfl (show _ < 16 by omega) (by decide) rfl d_MD_send_113 ?_
            refine g_val (show nI _ = nI ((pt (pt V 77 n (V 77 n + 1)) 82 (16 * V 70 n + 4 * n + V 77 n) x) 78 (4 * n + r)) from congrArg nI (rvc_ne (by decide) r)) ?_
            refine g_iast hx hb hK.1 (gw_D had) (w_Ma (c := 83) (by decide) (by decide)) 0 rfl (show _ < 1024 by omega) (by decide) d_MD_send_114 (s_Ma (c := 83) (by decide) (by decide) _ _) ?_
            refine n_iinc (L' := [_, _, _, _, _]) hx hb d_MD_send_115 rfl rfl ?_
            refine g_goto (tgt := 77) hx hb d_MD_send_118 (by decide) ?_
            refine g_w (congrArg (gw ad ct) (show _ = rvc (pt (pt V 77 n (V 77 n + 1)) 82 (16 * V 70 n + 4 * n + V 77 n) x) n (16 * V 70 n + 4 * n + V 77 n) (r + 1) from by rw [rvc, if_neg heq])) ?_
            exact ih_r (by omega) trivial
          · refine g_iconst hx hb d_MD_send_99 k_iconst_0 ?_
            refine g_goto (tgt := 114) hx hb d_MD_send_100 (by decide) ?_
            refine g_iast hx hb hK.1 (gw_D had) (w_Ma (c := 83) (by decide) (by decide)) 0 rfl (show _ < 1024 by omega) (by decide) d_MD_send_114 (s_Ma (c := 83) (by decide) (by decide) _ _) ?_
            refine n_iinc (L' := [_, _, _, _, _]) hx hb d_MD_send_115 rfl rfl ?_
            refine g_goto (tgt := 77) hx hb d_MD_send_118 (by decide) ?_
            refine g_w (congrArg (gw ad ct) (show _ = rvc (pt (pt V 77 n (V 77 n + 1)) 82 (16 * V 70 n + 4 * n + V 77 n) x) n (16 * V 70 n + 4 * n + V 77 n) (r + 1) from by rw [rvc, if_pos heq])) ?_
            exact ih_r (by omega) trivial
      · refine g_bipush hx hb d_MD_send_33 k_bipush_m3 ?_
        have hS : rSend V n x = (-3, V) := by unfold rSend; rw [if_neg (not_not_intro hbl), if_pos hse]
        exact g_iret hx hb hr hlk d_MD_send_35 (Or.inr ⟨hn, by rw [hS] <;> first | exact n0_eq | exact n1_eq | exact n2_eq, by rw [hS]⟩)
    · refine g_bipush hx hb d_MD_send_20 k_bipush_m2 ?_
      have hS : rSend V n x = (-2, V) := by unfold rSend; rw [if_pos hbl]
      exact g_iret hx hb hr hlk d_MD_send_22 (Or.inr ⟨hn, by rw [hS] <;> first | exact n0_eq | exact n1_eq | exact n2_eq, by rw [hS]⟩)
  · have hn := bN_0.mp hn
    have hn : ¬ n < 4 := by omega
    refine g_iconst hx hb d_MD_send_9 k_iconst_m1 ?_
    exact g_iret hx hb hr hlk d_MD_send_10 (Or.inl ⟨hn, rfl, rfl⟩)
set_option maxRecDepth 100000 in
set_option maxHeartbeats 4000000 in
theorem ct_MD_change (l : Launch) (D : va_G) (ad : Nat → Nat) (ct : Nat → ClassId) (had : adOk ad) (V : VV) (n set : Nat) (h1 : n < 2 ^ 32) (h2 : set < 2 ^ 32) (hrb : RB V) : CTi l y_MD_change (mw y_MD_change c_MD_change 5 (some .int)) { frames := 1, cells := 0, slots := 0, locals := 24 } (gK D ct) D vcl (gA ad) [.ref (ad 69), .int (nI n), .int (nI set)] (gw ad ct V) (fun r w => (¬ n < 4 ∧ r = -1 ∧ w = gw ad ct V) ∨ (n < 4 ∧ r = (rChange V n set).1 ∧ w = gw ad ct (rChange V n set).2)) := by
  refine ct_i (by decide) rfl rfl (Nat.le_of_ble_eq_true rfl) ?_
  intro pg en sx mx blw mth cdx hx hb hr hts hown hlk hml hK
  refine g_L (L' := [_, _, _, _, _]) rfl ?_
  refine g_iload_n hx hb d_MD_change_0 rfl rfl ?_
  refine g_iconst hx hb d_MD_change_1 k_iconst_0 ?_
  refine g_iconst hx hb d_MD_change_2 k_iconst_3 ?_
  refine g_callSi (nn := 3) ⟨hx, hb, hml.trans rfl, hown, hts⟩ (ct_MD_within l D ad ct had _ _ _ _ (by omega) (by omega) (by omega)) (mk_S hts t_390 t_391 t_4 t_392 rfl rfl (by decide +kernel) ⟨Nat.le_of_ble_eq_true rfl, Nat.le_of_ble_eq_true rfl⟩) (fun _ h => h) (gK_ok D ct) hK (Nat.le_of_ble_eq_true rfl) ⟨Nat.zero_le _, Nat.zero_le _⟩ rfl rfl d_MD_change_3 ?_
  rintro _ _ ⟨rfl, rfl⟩
  refine n_if_ne (tgt := 11) hx hb d_MD_change_6 (by decide) bN_lt (fun hn => ?_) (fun hn => ?_)
  · have hn := bN_n0.mp hn
    have hn : n < 4 := by omega
    have hpa := hrb.1.p n hn
    have hv15 := hrb.1.v
    refine g_iload_n hx hb d_MD_change_11 rfl rfl ?_
    refine g_iconst hx hb d_MD_change_12 k_iconst_1 ?_
    refine g_bipush hx hb d_MD_change_13 k_bipush_15 ?_
    refine g_callSi (nn := 3) ⟨hx, hb, hml.trans rfl, hown, hts⟩ (ct_MD_within l D ad ct had _ _ _ _ (by omega) (by omega) (by omega)) (mk_S hts t_390 t_391 t_4 t_392 rfl rfl (by decide +kernel) ⟨Nat.le_of_ble_eq_true rfl, Nat.le_of_ble_eq_true rfl⟩) (fun _ h => h) (gK_ok D ct) hK (Nat.le_of_ble_eq_true rfl) ⟨Nat.zero_le _, Nat.zero_le _⟩ rfl rfl d_MD_change_15 ?_
    rintro _ _ ⟨rfl, rfl⟩
    refine n_if_eq (tgt := 29) hx hb d_MD_change_18 (by decide) bN_lt (fun hne => ?_) (fun hne => ?_)
    · have hne := bN_0.mp hne
      refine g_bipush hx hb d_MD_change_29 k_bipush_m2 ?_
      have hS : rChange V n set = (-2, V) := by unfold rChange; rw [if_pos (fun z => hne ⟨z.1, z.2.1⟩)]
      exact g_iret hx hb hr hlk d_MD_change_31 (Or.inr ⟨hn, by rw [hS] <;> first | exact n0_eq | exact n1_eq | exact n2_eq, by rw [hS]⟩)
    · have hne := bN_n0.mp hne
      refine g_iload_n hx hb d_MD_change_21 rfl rfl ?_
      refine g_iload_n hx hb d_MD_change_22 rfl rfl ?_
      refine n_ishr hx hb d_MD_change_23 (by omega) (by omega) ?_
      refine g_iconst hx hb d_MD_change_24 k_iconst_1 ?_
      refine n_iand hx hb d_MD_change_25 ?_
      refine g_val (show nI _ = nI (set / 2 ^ n % 2) from congrArg nI (Nat.and_one_is_mod _)) ?_
      refine n_if_ne (tgt := 32) hx hb d_MD_change_26 (by decide) (by omega) (fun hbit => ?_) (fun hbit => ?_)
      · refine g_aload_n hx hb d_MD_change_32 rfl rfl ?_
        refine g_get hx hb hts (in_mw in_MD) hown hK.1 w_M rfl 1 (by decide) (hts _ (List.mem_cons_of_mem _ t_316)) rfl d_MD_change_33 ?_
        refine g_iload_n hx hb d_MD_change_36 rfl rfl ?_
        refine g_iald hx hb hK.1 (w_Ma (c := 71) (by decide) (by decide)) 0 rfl (show _ < 4 by omega) (by decide) rfl d_MD_change_37 ?_
        refine g_bipush hx hb d_MD_change_38 k_bipush_15 ?_
        refine n_icmp_ne (tgt := 46) hx hb d_MD_change_40 (by decide) (by omega) (by omega) (fun hch => ?_) (fun hch => ?_)
        · refine g_aload_n hx hb d_MD_change_46 rfl rfl ?_
          refine g_get hx hb hts (in_mw in_MD) hown hK.1 w_M rfl 1 (by decide) (hts _ (List.mem_cons_of_mem _ t_316)) rfl d_MD_change_47 ?_
          refine g_iload_n hx hb d_MD_change_50 rfl rfl ?_
          refine g_dup2 hx hb d_MD_change_51 rfl rfl ?_
          refine g_iald hx hb hK.1 (w_Ma (c := 71) (by decide) (by decide)) 0 rfl (show _ < 4 by omega) (by decide) rfl d_MD_change_52 ?_
          refine g_iconst hx hb d_MD_change_53 k_iconst_1 ?_
          refine n_iadd hx hb d_MD_change_54 ?_
          refine g_iast hx hb hK.1 (gw_D had) (w_Ma (c := 71) (by decide) (by decide)) 0 rfl (show _ < 4 by omega) (by decide) d_MD_change_55 (s_Ma (c := 71) (by decide) (by decide) _ _) ?_
          refine g_aload_n hx hb d_MD_change_56 rfl rfl ?_
          refine g_get hx hb hts (in_mw in_MD) hown hK.1 w_M rfl 2 (by decide) (hts _ (List.mem_cons_of_mem _ t_317)) rfl d_MD_change_57 ?_
          refine g_iload_n hx hb d_MD_change_60 rfl rfl ?_
          refine g_iload_n hx hb d_MD_change_61 rfl rfl ?_
          refine g_iast hx hb hK.1 (gw_D had) (w_Ma (c := 72) (by decide) (by decide)) 0 rfl (show _ < 4 by omega) (by decide) d_MD_change_62 (s_Ma (c := 72) (by decide) (by decide) _ _) ?_
          refine g_aload_n hx hb d_MD_change_63 rfl rfl ?_
          refine g_get hx hb hts (in_mw in_MD) hown hK.1 w_M rfl 4 (by decide) (hts _ (List.mem_cons_of_mem _ t_319)) rfl d_MD_change_64 ?_
          refine g_iload_n hx hb d_MD_change_67 rfl rfl ?_
          refine g_iconst hx hb d_MD_change_68 k_iconst_1 ?_
          refine g_zast hx hb hK.1 (gw_D had) (w_Ma (c := 74) (by decide) (by decide)) 1 rfl (show _ < 4 by omega) (by decide) d_MD_change_69 (by decide +kernel) (s_Ma (c := 74) (by decide) (by decide) _ _) ?_
          refine g_aload_n hx hb d_MD_change_70 rfl rfl ?_
          refine g_get hx hb hts (in_mw in_MD) hown hK.1 w_M rfl 5 (by decide) (hts _ (List.mem_cons_of_mem _ t_320)) rfl d_MD_change_71 ?_
          refine g_iload_n hx hb d_MD_change_74 rfl rfl ?_
          refine g_iconst hx hb d_MD_change_75 k_iconst_0 ?_
          refine g_iast hx hb hK.1 (gw_D had) (w_Ma (c := 75) (by decide) (by decide)) 0 rfl (show _ < 4 by omega) (by decide) d_MD_change_76 (s_Ma (c := 75) (by decide) (by decide) _ _) ?_
          refine g_aload_n hx hb d_MD_change_77 rfl rfl ?_
          refine g_get hx hb hts (in_mw in_MD) hown hK.1 w_M rfl 3 (by decide) (hts _ (List.mem_cons_of_mem _ t_318)) rfl d_MD_change_78 ?_
          refine g_iload_n hx hb d_MD_change_81 rfl rfl ?_
          refine g_iconst hx hb d_MD_change_82 k_iconst_1 ?_
          refine g_zast hx hb hK.1 (gw_D had) (w_Ma (c := 73) (by decide) (by decide)) 1 rfl (show _ < 4 by omega) (by decide) d_MD_change_83 (by decide +kernel) (s_Ma (c := 73) (by decide) (by decide) _ _) ?_
          refine g_bipush hx hb d_MD_change_84 k_bipush_16 ?_
          refine g_iload_n hx hb d_MD_change_86 rfl rfl ?_
          refine n_imul hx hb d_MD_change_87 ?_
          refine g_aload_n hx hb d_MD_change_88 rfl rfl ?_
          refine g_get hx hb hts (in_mw in_MD) hown hK.1 w_M rfl 1 (by decide) (hts _ (List.mem_cons_of_mem _ t_316)) rfl d_MD_change_89 ?_
          refine g_iload_n hx hb d_MD_change_92 rfl rfl ?_
          refine g_iald hx hb hK.1 (w_Ma (c := 71) (by decide) (by decide)) 0 rfl (show _ < 4 by omega) (by decide) rfl d_MD_change_93 ?_
          refine g_val (show nI _ = nI ((V 71 n) + 1) from congrArg nI (by simp (disch := omega) only [pt_eq, pt_ne, pt_nk])) ?_
          refine n_iadd hx hb d_MD_change_94 ?_
          refine g_istore_n (L' := [_, _, _, _, _]) hx hb d_MD_change_95 rfl (Nat.le_of_ble_eq_true rfl) rfl ?_
          refine g_aload_n hx hb d_MD_change_96 rfl rfl ?_
          refine g_get hx hb hts (in_mw in_MD) hown hK.1 w_M rfl 16 (by decide) (hts _ (List.mem_cons_of_mem _ t_331)) rfl d_MD_change_97 ?_
          refine g_iload_n hx hb d_MD_change_100 rfl rfl ?_
          refine g_aload_n hx hb d_MD_change_101 rfl rfl ?_
          refine g_get hx hb hts (in_mw in_MD) hown hK.1 w_M rfl 0 (by decide) (hts _ (List.mem_cons_of_mem _ t_315)) rfl d_MD_change_102 ?_
          refine g_iload_n hx hb d_MD_change_105 rfl rfl ?_
          refine g_iald hx hb hK.1 (w_Ma (c := 70) (by decide) (by decide)) 0 rfl (show _ < 4 by omega) (by decide) rfl d_MD_change_106 ?_
          refine g_val (show nI _ = nI (V 70 n) from congrArg nI (by simp (disch := omega) only [pt_eq, pt_ne, pt_nk])) ?_
          refine g_iast hx hb hK.1 (gw_D had) (w_Ma (c := 85) (by decide) (by decide)) 0 rfl (show _ < 64 by omega) (by decide) d_MD_change_107 (s_Ma (c := 85) (by decide) (by decide) _ _) ?_
          refine g_iconst hx hb d_MD_change_108 k_iconst_0 ?_
          refine g_istore (L' := [_, _, _, _, _]) hx hb d_MD_change_109 (Nat.le_of_ble_eq_true rfl) rfl ?_
          refine g_loop 4 (fun r => gw ad ct (rct (pt (pt (pt (pt (pt (pt V 71 n (V 71 n + 1)) 72 n set) 74 n 1) 75 n 0) 73 n 1) 85 (16 * n + (V 71 n + 1)) (V 70 n)) n (16 * n + (V 71 n + 1)) r)) (fun r => [some (.ref (ad 69)), some (.int (nI n)), some (.int (nI set)), some (.int (nI ((16 * n) + ((V 71 n) + 1)))), some (.int (nI r))]) (fun r => True) 0 (by omega) trivial rfl rfl ?_
          intro r hq0_r hqE_r hI_r ih_r
          try dsimp only
          refine g_iload hx hb d_MD_change_111 rfl ?_
          refine g_iconst hx hb d_MD_change_113 k_iconst_4 ?_
          refine n_icmp_ge (tgt := 160) hx hb d_MD_change_114 (by decide) (by omega) (by omega) (fun hc1 => ?_) (fun hc1 => ?_)
          · have hr4 : r = 4 := by omega
            subst hr4
            refine g_aload_n hx hb d_MD_change_160 rfl rfl ?_
            refine g_get hx hb hts (in_mw in_MD) hown hK.1 w_M rfl 18 (by decide) (hts _ (List.mem_cons_of_mem _ t_333)) rfl d_MD_change_161 ?_
            refine g_bipush hx hb d_MD_change_164 k_bipush_64 ?_
            refine g_iload_n hx hb d_MD_change_166 rfl rfl ?_
            refine n_imul hx hb d_MD_change_167 ?_
            refine g_iload_n hx hb d_MD_change_168 rfl rfl ?_
            refine n_iadd hx hb d_MD_change_169 ?_
            refine g_iconst hx hb d_MD_change_170 k_iconst_1 ?_
            refine g_zast hx hb hK.1 (gw_D had) (w_Ma (c := 87) (by decide) (by decide)) 1 rfl (show _ < 256 by omega) (by decide) d_MD_change_171 (by decide +kernel) (s_Ma (c := 87) (by decide) (by decide) _ _) ?_
            refine g_aload_n hx hb d_MD_change_172 rfl rfl ?_
            refine g_iload_n hx hb d_MD_change_173 rfl rfl ?_
            refine g_iload_n hx hb d_MD_change_174 rfl rfl ?_
            refine g_sipush hx hb d_MD_change_175 k_sipush_256 ?_
            refine g_iload_n hx hb d_MD_change_178 rfl rfl ?_
            refine n_iadd hx hb d_MD_change_179 ?_
            refine g_callVv (C := "GroupViewsModel") (nn := 3) ⟨hx, hb, hml.trans rfl, hown, hts⟩ (ct_MD_put l D ad ct had _ _ _ _ hn (by omega) (fun j hj => by simp (disch := omega) only [pt_eq, pt_ne, pt_nk, rct_ne]; have := (hrb.2 (4 * n + j) (by omega)).1; omega)) (mk_V hts t_397 t_399 ts_MD_put t_4 t_400 rfl rfl (by decide +kernel) ⟨Nat.le_of_ble_eq_true rfl, Nat.le_of_ble_eq_true rfl⟩) hK.1 rfl w_M rfl (fun _ h => h) (gK_ok D ct) hK (Nat.le_of_ble_eq_true rfl) ⟨Nat.zero_le _, Nat.zero_le _⟩ rfl rfl d_MD_change_180 ?_
            rintro _ rfl
            refine g_aload_n hx hb d_MD_change_183 rfl rfl ?_
            refine g_get hx hb hts (in_mw in_MD) hown hK.1 w_M rfl 1 (by decide) (hts _ (List.mem_cons_of_mem _ t_316)) rfl d_MD_change_184 ?_
            refine g_iload_n hx hb d_MD_change_187 rfl rfl ?_
            refine g_iald hx hb hK.1 (w_Ma (c := 71) (by decide) (by decide)) 0 rfl (show _ < 4 by omega) (by decide) rfl d_MD_change_188 ?_
            refine g_val (show nI _ = nI (V 71 n + 1) from congrArg nI (by rw [rpo_ne (by decide) (by decide)]; simp (disch := omega) only [pt_eq, pt_ne, pt_nk, rct_ne])) ?_
            have hS : rChange V n set = (nI (V 71 n + 1), rpo (pt (rct (pt (pt (pt (pt (pt (pt V 71 n (V 71 n + 1)) 72 n set) 74 n 1) 75 n 0) 73 n 1) 85 (16 * n + (V 71 n + 1)) (V 70 n)) n (16 * n + (V 71 n + 1)) 4) 87 (64 * n + (16 * n + (V 71 n + 1))) 1) n set (256 + (16 * n + (V 71 n + 1))) 4) := by unfold rChange; rw [if_neg (not_not_intro ⟨hne.1, hne.2, hbit⟩), if_neg hch]
            exact g_iret hx hb hr hlk d_MD_change_189 (Or.inr ⟨hn, by rw [hS] <;> first | exact n0_eq | exact n1_eq | exact n2_eq, by rw [hS]⟩)
          · refine g_aload_n hx hb d_MD_change_117 rfl rfl ?_
            refine g_get hx hb hts (in_mw in_MD) hown hK.1 w_M rfl 17 (by decide) (hts _ (List.mem_cons_of_mem _ t_332)) rfl d_MD_change_118 ?_
            refine g_iconst hx hb d_MD_change_121 k_iconst_4 ?_
            refine g_iload_n hx hb d_MD_change_122 rfl rfl ?_
            refine n_imul hx hb d_MD_change_123 ?_
            refine g_iload hx hb d_MD_change_124 rfl ?_
            refine n_iadd hx hb d_MD_change_126 ?_
            refine g_iload hx hb d_MD_change_127 rfl ?_
            refine g_iload_n hx hb d_MD_change_129 rfl rfl ?_
            refine n_icmp_ne (tgt := 142) hx hb d_MD_change_130 (by decide) (by omega) (by omega) (fun heq => ?_) (fun heq => ?_)
            · refine g_aload_n hx hb d_MD_change_142 rfl rfl ?_
              refine g_get hx hb hts (in_mw in_MD) hown hK.1 w_M rfl 8 (by decide) (hts _ (List.mem_cons_of_mem _ t_323)) rfl d_MD_change_143 ?_
              refine g_iconst hx hb d_MD_change_146 k_iconst_4 ?_
              refine g_iload_n hx hb d_MD_change_147 rfl rfl ?_
              refine n_imul hx hb d_MD_change_148 ?_
              refine g_iload hx hb d_MD_change_149 rfl ?_
              refine n_iadd hx hb d_MD_change_151 ?_
              refine g_iald hx hb hK.1 (w_Ma (c := 78) (by decide) (by decide)) 0 rfl (show _ < 16 by omega) (by decide) rfl d_MD_change_152 ?_
              refine g_val (show nI _ = nI ((pt (pt (pt (pt (pt (pt V 71 n (V 71 n + 1)) 72 n set) 74 n 1) 75 n 0) 73 n 1) 85 (16 * n + (V 71 n + 1)) (V 70 n)) 78 (4 * n + r)) from congrArg nI (rct_ne (by decide) r)) ?_
              refine g_iast hx hb hK.1 (gw_D had) (w_Ma (c := 86) (by decide) (by decide)) 0 rfl (show _ < 256 by omega) (by decide) d_MD_change_153 (s_Ma (c := 86) (by decide) (by decide) _ _) ?_
              refine n_iinc (L' := [_, _, _, _, _]) hx hb d_MD_change_154 rfl rfl ?_
              refine g_goto (tgt := 111) hx hb d_MD_change_157 (by decide) ?_
              refine g_w (congrArg (gw ad ct) (show _ = rct (pt (pt (pt (pt (pt (pt V 71 n (V 71 n + 1)) 72 n set) 74 n 1) 75 n 0) 73 n 1) 85 (16 * n + (V 71 n + 1)) (V 70 n)) n (16 * n + (V 71 n + 1)) (r + 1) from by rw [rct, if_neg heq])) ?_
              exact ih_r (by omega) trivial
            · refine g_aload_n hx hb d_MD_change_133 rfl rfl ?_
              refine g_get hx hb hts (in_mw in_MD) hown hK.1 w_M rfl 7 (by decide) (hts _ (List.mem_cons_of_mem _ t_322)) rfl d_MD_change_134 ?_
              refine g_iload_n hx hb d_MD_change_137 rfl rfl ?_
              refine g_iald hx hb hK.1 (w_Ma (c := 77) (by decide) (by decide)) 0 rfl (show _ < 4 by omega) (by decide) rfl d_MD_change_138 ?_
              refine g_val (show nI _ = nI ((pt (pt (pt (pt (pt (pt V 71 n (V 71 n + 1)) 72 n set) 74 n 1) 75 n 0) 73 n 1) 85 (16 * n + (V 71 n + 1)) (V 70 n)) 77 n) from congrArg nI (rct_ne (by decide) r)) ?_
              refine g_goto (tgt := 153) hx hb d_MD_change_139 (by decide) ?_
              refine g_iast hx hb hK.1 (gw_D had) (w_Ma (c := 86) (by decide) (by decide)) 0 rfl (show _ < 256 by omega) (by decide) d_MD_change_153 (s_Ma (c := 86) (by decide) (by decide) _ _) ?_
              refine n_iinc (L' := [_, _, _, _, _]) hx hb d_MD_change_154 rfl rfl ?_
              refine g_goto (tgt := 111) hx hb d_MD_change_157 (by decide) ?_
              refine g_w (congrArg (gw ad ct) (show _ = rct (pt (pt (pt (pt (pt (pt V 71 n (V 71 n + 1)) 72 n set) 74 n 1) 75 n 0) 73 n 1) 85 (16 * n + (V 71 n + 1)) (V 70 n)) n (16 * n + (V 71 n + 1)) (r + 1) from by rw [rct, if_pos heq])) ?_
              exact ih_r (by omega) trivial
        · refine g_bipush hx hb d_MD_change_43 k_bipush_m3 ?_
          have hS : rChange V n set = (-3, V) := by unfold rChange; rw [if_neg (not_not_intro ⟨hne.1, hne.2, hbit⟩), if_pos hch]
          exact g_iret hx hb hr hlk d_MD_change_45 (Or.inr ⟨hn, by rw [hS] <;> first | exact n0_eq | exact n1_eq | exact n2_eq, by rw [hS]⟩)
      · refine g_bipush hx hb d_MD_change_29 k_bipush_m2 ?_
        have hS : rChange V n set = (-2, V) := by unfold rChange; rw [if_pos (fun z => z.2.2 hbit)]
        exact g_iret hx hb hr hlk d_MD_change_31 (Or.inr ⟨hn, by rw [hS] <;> first | exact n0_eq | exact n1_eq | exact n2_eq, by rw [hS]⟩)
  · have hn := bN_0.mp hn
    have hn : ¬ n < 4 := by omega
    refine g_iconst hx hb d_MD_change_9 k_iconst_m1 ?_
    exact g_iret hx hb hr hlk d_MD_change_10 (Or.inl ⟨hn, rfl, rfl⟩)
set_option maxRecDepth 100000 in
set_option maxHeartbeats 4000000 in
theorem ct_MD_form (l : Launch) (D : va_G) (ad : Nat → Nat) (ct : Nat → ClassId) (had : adOk ad) (V : VV) (set : Nat) (h2 : set < 2 ^ 32) (hrb : RB V) : CTi l y_MD_form (mw y_MD_form c_MD_form 3 (some .int)) { frames := 1, cells := 0, slots := 0, locals := 22 } (gK D ct) D vcl (gA ad) [.ref (ad 69), .int (nI set)] (gw ad ct V) (fun r w => ∃ X', rForm V set r X' ∧ w = gw ad ct X') := by
  refine ct_i (by decide) rfl rfl (Nat.le_of_ble_eq_true rfl) ?_
  intro pg en sx mx blw mth cdx hx hb hr hts hown hlk hml hK
  refine g_L (L' := [_, _, _]) rfl ?_
  have hv15 := hrb.1.v
  refine g_iload_n hx hb d_MD_form_0 rfl rfl ?_
  refine g_iconst hx hb d_MD_form_1 k_iconst_1 ?_
  refine g_bipush hx hb d_MD_form_2 k_bipush_15 ?_
  refine g_callSi (nn := 3) ⟨hx, hb, hml.trans rfl, hown, hts⟩ (ct_MD_within l D ad ct had _ _ _ _ (by omega) (by omega) (by omega)) (mk_S hts t_390 t_391 t_4 t_392 rfl rfl (by decide +kernel) ⟨Nat.le_of_ble_eq_true rfl, Nat.le_of_ble_eq_true rfl⟩) (fun _ h => h) (gK_ok D ct) hK (Nat.le_of_ble_eq_true rfl) ⟨Nat.zero_le _, Nat.zero_le _⟩ rfl rfl d_MD_form_4 ?_
  rintro _ _ ⟨rfl, rfl⟩
  refine n_if_ne (tgt := 13) hx hb d_MD_form_7 (by decide) bN_lt (fun hne => ?_) (fun hne => ?_)
  · have hne := bN_n0.mp hne
    refine g_aload_n hx hb d_MD_form_13 rfl rfl ?_
    refine g_get hx hb hts (in_mw in_MD) hown hK.1 w_M rfl 10 (by decide) (hts _ (List.mem_cons_of_mem _ t_325)) rfl d_MD_form_14 ?_
    refine g_bipush hx hb d_MD_form_17 k_bipush_15 ?_
    refine n_icmp_ne (tgt := 25) hx hb d_MD_form_19 (by decide) (by omega) (by omega) (fun hfo => ?_) (fun hfo => ?_)
    · refine g_iconst hx hb d_MD_form_25 k_iconst_0 ?_
      refine g_istore_n (L' := [_, _, _]) hx hb d_MD_form_26 rfl (Nat.le_of_ble_eq_true rfl) rfl ?_
      refine g_loop 4 (fun q => gw ad ct V) (fun q => [some (.ref (ad 69)), some (.int (nI set)), some (.int (nI q))]) (fun q => ∀ j, j < q → set / 2 ^ j % 2 = 1 → ¬ V 73 j = 0 ∧ set &&& V 72 j = set) 0 (by omega) (fun j hj => absurd hj (Nat.not_lt_zero j)) rfl rfl ?_
      intro q hq0_q hqE_q hI_q ih_q
      try dsimp only
      refine g_iload_n hx hb d_MD_form_27 rfl rfl ?_
      refine g_iconst hx hb d_MD_form_28 k_iconst_4 ?_
      refine n_icmp_ge (tgt := 72) hx hb d_MD_form_29 (by decide) (by omega) (by omega) (fun hc1 => ?_) (fun hc1 => ?_)
      · have hcf : rfm V set := fun j hj hb => hI_q j (by omega) hb
        clear hI_q ih_q hqE_q hq0_q
        refine g_aload_n hx hb d_MD_form_72 rfl rfl ?_
        refine g_dup hx hb d_MD_form_73 rfl ?_
        refine g_get hx hb hts (in_mw in_MD) hown hK.1 w_M rfl 10 (by decide) (hts _ (List.mem_cons_of_mem _ t_325)) rfl d_MD_form_74 ?_
        refine g_iconst hx hb d_MD_form_77 k_iconst_1 ?_
        refine n_iadd hx hb d_MD_form_78 ?_
        refine g_put (ty := .int) hx hb hts (in_mw in_MD) ty_MD tyo_MD nm_MD hown hK.1 (gw_D had) w_M rfl 10 (by decide) (hts _ (List.mem_cons_of_mem _ t_325)) rfl (by decide +kernel) rfl rfl (Nat.le_of_ble_eq_true rfl) d_MD_form_79 (s_M10 _) ?_
        refine g_aload_n hx hb d_MD_form_82 rfl rfl ?_
        refine g_get hx hb hts (in_mw in_MD) hown hK.1 w_M rfl 11 (by decide) (hts _ (List.mem_cons_of_mem _ t_326)) rfl d_MD_form_83 ?_
        refine g_aload_n hx hb d_MD_form_86 rfl rfl ?_
        refine g_get hx hb hts (in_mw in_MD) hown hK.1 w_M rfl 10 (by decide) (hts _ (List.mem_cons_of_mem _ t_325)) rfl d_MD_form_87 ?_
        refine g_val (show nI _ = nI ((V 69 10) + 1) from congrArg nI (by simp (disch := omega) only [pt_eq, pt_ne, pt_nk])) ?_
        refine g_iload_n hx hb d_MD_form_90 rfl rfl ?_
        refine g_iast hx hb hK.1 (gw_D had) (w_Ma (c := 80) (by decide) (by decide)) 0 rfl (show _ < 16 by omega) (by decide) d_MD_form_91 (s_Ma (c := 80) (by decide) (by decide) _ _) ?_
        refine g_iconst hx hb d_MD_form_92 k_iconst_0 ?_
        refine g_istore_n (L' := [_, _, _]) hx hb d_MD_form_93 rfl (Nat.le_of_ble_eq_true rfl) rfl ?_
        refine g_loop 4 (fun q => gw ad ct (rfo (pt (pt V 69 10 (V 69 10 + 1)) 80 (V 69 10 + 1) set) set (V 69 10 + 1) q)) (fun q => [some (.ref (ad 69)), some (.int (nI set)), some (.int (nI q))]) (fun q => True) 0 (by omega) trivial rfl rfl ?_
        intro q hq0_q hqE_q hI_q ih_q
        try dsimp only
        refine g_iload_n hx hb d_MD_form_94 rfl rfl ?_
        refine g_iconst hx hb d_MD_form_95 k_iconst_4 ?_
        refine n_icmp_ge (tgt := 142) hx hb d_MD_form_96 (by decide) (by omega) (by omega) (fun hc2 => ?_) (fun hc2 => ?_)
        · have hq4 : q = 4 := by omega
          subst hq4
          refine g_aload_n hx hb d_MD_form_142 rfl rfl ?_
          refine g_get hx hb hts (in_mw in_MD) hown hK.1 w_M rfl 10 (by decide) (hts _ (List.mem_cons_of_mem _ t_325)) rfl d_MD_form_143 ?_
          refine g_val (show nI _ = nI (V 69 10 + 1) from congrArg nI (by rw [rfo_ne (by decide) (by decide)]; simp (disch := omega) only [pt_eq, pt_ne, pt_nk])) ?_
          exact g_iret hx hb hr hlk d_MD_form_146 (⟨_, Or.inr (Or.inr (Or.inr ⟨hne, hfo, hcf, rfl, rfl⟩)), rfl⟩)
        · have hq : q < 4 := by omega
          refine g_iload_n hx hb d_MD_form_99 rfl rfl ?_
          refine g_iload_n hx hb d_MD_form_100 rfl rfl ?_
          refine n_ishr hx hb d_MD_form_101 (by omega) (by omega) ?_
          refine g_iconst hx hb d_MD_form_102 k_iconst_1 ?_
          refine n_iand hx hb d_MD_form_103 ?_
          refine g_val (show nI _ = nI (set / 2 ^ q % 2) from congrArg nI (Nat.and_one_is_mod _)) ?_
          refine n_if_ne (tgt := 110) hx hb d_MD_form_104 (by decide) (by omega) (fun hbit => ?_) (fun hbit => ?_)
          · refine g_aload_n hx hb d_MD_form_110 rfl rfl ?_
            refine g_get hx hb hts (in_mw in_MD) hown hK.1 w_M rfl 12 (by decide) (hts _ (List.mem_cons_of_mem _ t_327)) rfl d_MD_form_111 ?_
            refine g_iconst hx hb d_MD_form_114 k_iconst_4 ?_
            refine g_aload_n hx hb d_MD_form_115 rfl rfl ?_
            refine g_get hx hb hts (in_mw in_MD) hown hK.1 w_M rfl 10 (by decide) (hts _ (List.mem_cons_of_mem _ t_325)) rfl d_MD_form_116 ?_
            refine g_val (show nI _ = nI (V 69 10 + 1) from congrArg nI (by rw [rfo_ne (by decide) (by decide)]; simp (disch := omega) only [pt_eq, pt_ne, pt_nk])) ?_
            refine n_imul hx hb d_MD_form_119 ?_
            refine g_iload_n hx hb d_MD_form_120 rfl rfl ?_
            refine n_iadd hx hb d_MD_form_121 ?_
            refine g_aload_n hx hb d_MD_form_122 rfl rfl ?_
            refine g_get hx hb hts (in_mw in_MD) hown hK.1 w_M rfl 1 (by decide) (hts _ (List.mem_cons_of_mem _ t_316)) rfl d_MD_form_123 ?_
            refine g_iload_n hx hb d_MD_form_126 rfl rfl ?_
            refine g_iald hx hb hK.1 (w_Ma (c := 71) (by decide) (by decide)) 0 rfl (show _ < 4 by omega) (by decide) rfl d_MD_form_127 ?_
            refine g_iast hx hb hK.1 (gw_D had) (w_Ma (c := 81) (by decide) (by decide)) 0 rfl (show _ < 64 by omega) (by decide) d_MD_form_128 (s_Ma (c := 81) (by decide) (by decide) _ _) ?_
            refine g_aload_n hx hb d_MD_form_129 rfl rfl ?_
            refine g_get hx hb hts (in_mw in_MD) hown hK.1 w_M rfl 3 (by decide) (hts _ (List.mem_cons_of_mem _ t_318)) rfl d_MD_form_130 ?_
            refine g_iload_n hx hb d_MD_form_133 rfl rfl ?_
            refine g_iconst hx hb d_MD_form_134 k_iconst_0 ?_
            refine g_zast hx hb hK.1 (gw_D had) (w_Ma (c := 73) (by decide) (by decide)) 1 rfl (show _ < 4 by omega) (by decide) d_MD_form_135 (by decide +kernel) (s_Ma (c := 73) (by decide) (by decide) _ _) ?_
            refine n_iinc (L' := [_, _, _]) hx hb d_MD_form_136 rfl rfl ?_
            refine g_goto (tgt := 94) hx hb d_MD_form_139 (by decide) ?_
            refine g_w (congrArg (gw ad ct) (show _ = rfo (pt (pt V 69 10 (V 69 10 + 1)) 80 (V 69 10 + 1) set) set (V 69 10 + 1) (q + 1) from by rw [rfo, if_pos hbit])) ?_
            exact ih_q (by omega) trivial
          · refine g_goto (tgt := 136) hx hb d_MD_form_107 (by decide) ?_
            refine n_iinc (L' := [_, _, _]) hx hb d_MD_form_136 rfl rfl ?_
            refine g_goto (tgt := 94) hx hb d_MD_form_139 (by decide) ?_
            refine g_w (congrArg (gw ad ct) (show _ = rfo (pt (pt V 69 10 (V 69 10 + 1)) 80 (V 69 10 + 1) set) set (V 69 10 + 1) (q + 1) from by rw [rfo, if_neg (not_not_intro hbit)])) ?_
            exact ih_q (by omega) trivial
      · have hq : q < 4 := by omega
        have hb3 := hrb.1.p q hq
        refine g_iload_n hx hb d_MD_form_32 rfl rfl ?_
        refine g_iload_n hx hb d_MD_form_33 rfl rfl ?_
        refine n_ishr hx hb d_MD_form_34 (by omega) (by omega) ?_
        refine g_iconst hx hb d_MD_form_35 k_iconst_1 ?_
        refine n_iand hx hb d_MD_form_36 ?_
        refine g_val (show nI _ = nI (set / 2 ^ q % 2) from congrArg nI (Nat.and_one_is_mod _)) ?_
        refine g_iconst hx hb d_MD_form_37 k_iconst_1 ?_
        refine n_icmp_ne (tgt := 66) hx hb d_MD_form_38 (by decide) (by omega) (by omega) (fun hbit => ?_) (fun hbit => ?_)
        · refine n_iinc (L' := [_, _, _]) hx hb d_MD_form_66 rfl rfl ?_
          refine g_goto (tgt := 27) hx hb d_MD_form_69 (by decide) ?_
          refine ih_q (by omega) (fun j hj hb => ?_)
          rcases Nat.lt_succ_iff_lt_or_eq.mp hj with z | z
          · exact hI_q j z hb
          · subst z
            first | exact absurd hb hbit | exact ⟨hop, (an_16 set (by omega) _ hb3.2.2.1).mp hsub⟩
        · refine g_aload_n hx hb d_MD_form_41 rfl rfl ?_
          refine g_get hx hb hts (in_mw in_MD) hown hK.1 w_M rfl 3 (by decide) (hts _ (List.mem_cons_of_mem _ t_318)) rfl d_MD_form_42 ?_
          refine g_iload_n hx hb d_MD_form_45 rfl rfl ?_
          refine g_zald hx hb hK.1 (w_Ma (c := 73) (by decide) (by decide)) 1 rfl (show _ < 4 by omega) (by decide) rfl d_MD_form_46 ?_
          refine n_if_eq (tgt := 63) hx hb d_MD_form_47 (by decide) (by omega) (fun hop => ?_) (fun hop => ?_)
          · refine g_bipush hx hb d_MD_form_63 k_bipush_m4 ?_
            exact g_iret hx hb hr hlk d_MD_form_65 (⟨_, Or.inr (Or.inr (Or.inl ⟨hne, hfo, fun z => (z q hq hbit).1 hop, rfl, rfl⟩)), rfl⟩)
          · refine g_iload_n hx hb d_MD_form_50 rfl rfl ?_
            refine g_aload_n hx hb d_MD_form_51 rfl rfl ?_
            refine g_get hx hb hts (in_mw in_MD) hown hK.1 w_M rfl 2 (by decide) (hts _ (List.mem_cons_of_mem _ t_317)) rfl d_MD_form_52 ?_
            refine g_iload_n hx hb d_MD_form_55 rfl rfl ?_
            refine g_iald hx hb hK.1 (w_Ma (c := 72) (by decide) (by decide)) 0 rfl (show _ < 4 by omega) (by decide) rfl d_MD_form_56 ?_
            refine g_iconst hx hb d_MD_form_57 k_iconst_m1 ?_
            refine g_ixor hx hb d_MD_form_58 ?_
            refine g_iand hx hb d_MD_form_59 ?_
            refine g_if_eq (tgt := 66) hx hb d_MD_form_60 (by decide) (fun hsub => ?_) (fun hsub => ?_)
            · refine n_iinc (L' := [_, _, _]) hx hb d_MD_form_66 rfl rfl ?_
              refine g_goto (tgt := 27) hx hb d_MD_form_69 (by decide) ?_
              refine ih_q (by omega) (fun j hj hb => ?_)
              rcases Nat.lt_succ_iff_lt_or_eq.mp hj with z | z
              · exact hI_q j z hb
              · subst z
                first | exact absurd hb hbit | exact ⟨hop, (an_16 set (by omega) _ hb3.2.2.1).mp hsub⟩
            · refine g_bipush hx hb d_MD_form_63 k_bipush_m4 ?_
              exact g_iret hx hb hr hlk d_MD_form_65 (⟨_, Or.inr (Or.inr (Or.inl ⟨hne, hfo, fun z => hsub ((an_16 set (by omega) _ hb3.2.2.1).mpr (z q hq hbit).2), rfl, rfl⟩)), rfl⟩)
    · refine g_bipush hx hb d_MD_form_22 k_bipush_m3 ?_
      exact g_iret hx hb hr hlk d_MD_form_24 (⟨_, Or.inr (Or.inl ⟨hne, hfo, rfl, rfl⟩), rfl⟩)
  · have hne := bN_0.mp hne
    refine g_bipush hx hb d_MD_form_10 k_bipush_m2 ?_
    exact g_iret hx hb hr hlk d_MD_form_12 (⟨_, Or.inl ⟨hne, rfl, rfl⟩, rfl⟩)
set_option maxRecDepth 100000 in
set_option maxHeartbeats 4000000 in
theorem ct_MD_tell (l : Launch) (D : va_G) (ad : Nat → Nat) (ct : Nat → ClassId) (had : adOk ad) (V : VV) (n v : Nat) (h1 : n < 2 ^ 32) (h2 : v < 2 ^ 32) (hrb : RB V) : CTi l y_MD_tell (mw y_MD_tell c_MD_tell 3 (some .int)) { frames := 1, cells := 0, slots := 0, locals := 22 } (gK D ct) D vcl (gA ad) [.ref (ad 69), .int (nI n), .int (nI v)] (gw ad ct V) (fun r w => (¬ n < 4 ∧ r = -1 ∧ w = gw ad ct V) ∨ (n < 4 ∧ r = (rTell V n v).1 ∧ w = gw ad ct (rTell V n v).2)) := by
  refine ct_i (by decide) rfl rfl (Nat.le_of_ble_eq_true rfl) ?_
  intro pg en sx mx blw mth cdx hx hb hr hts hown hlk hml hK
  refine g_L (L' := [_, _, _]) rfl ?_
  have hv15 := hrb.1.v
  refine g_iload_n hx hb d_MD_tell_0 rfl rfl ?_
  refine g_iconst hx hb d_MD_tell_1 k_iconst_0 ?_
  refine g_iconst hx hb d_MD_tell_2 k_iconst_3 ?_
  refine g_callSi (nn := 3) ⟨hx, hb, hml.trans rfl, hown, hts⟩ (ct_MD_within l D ad ct had _ _ _ _ (by omega) (by omega) (by omega)) (mk_S hts t_390 t_391 t_4 t_392 rfl rfl (by decide +kernel) ⟨Nat.le_of_ble_eq_true rfl, Nat.le_of_ble_eq_true rfl⟩) (fun _ h => h) (gK_ok D ct) hK (Nat.le_of_ble_eq_true rfl) ⟨Nat.zero_le _, Nat.zero_le _⟩ rfl rfl d_MD_tell_3 ?_
  rintro _ _ ⟨rfl, rfl⟩
  refine n_if_ne (tgt := 11) hx hb d_MD_tell_6 (by decide) bN_lt (fun hn => ?_) (fun hn => ?_)
  · have hn := bN_n0.mp hn
    have hn : n < 4 := by omega
    have hpa := hrb.1.p n hn
    refine g_iload_n hx hb d_MD_tell_11 rfl rfl ?_
    refine g_iconst hx hb d_MD_tell_12 k_iconst_1 ?_
    refine g_aload_n hx hb d_MD_tell_13 rfl rfl ?_
    refine g_get hx hb hts (in_mw in_MD) hown hK.1 w_M rfl 10 (by decide) (hts _ (List.mem_cons_of_mem _ t_325)) rfl d_MD_tell_14 ?_
    refine g_callSi (nn := 3) ⟨hx, hb, hml.trans rfl, hown, hts⟩ (ct_MD_within l D ad ct had _ _ _ _ (by omega) (by omega) (by omega)) (mk_S hts t_390 t_391 t_4 t_392 rfl rfl (by decide +kernel) ⟨Nat.le_of_ble_eq_true rfl, Nat.le_of_ble_eq_true rfl⟩) (fun _ h => h) (gK_ok D ct) hK (Nat.le_of_ble_eq_true rfl) ⟨Nat.zero_le _, Nat.zero_le _⟩ rfl rfl d_MD_tell_17 ?_
    rintro _ _ ⟨rfl, rfl⟩
    refine n_if_eq (tgt := 36) hx hb d_MD_tell_20 (by decide) bN_lt (fun hfo => ?_) (fun hfo => ?_)
    · have hfo := bN_0.mp hfo
      refine g_bipush hx hb d_MD_tell_36 k_bipush_m2 ?_
      have hS : rTell V n v = (-2, V) := by unfold rTell; rw [if_pos (fun z => hfo ⟨z.1, z.2.1⟩)]
      exact g_iret hx hb hr hlk d_MD_tell_38 (Or.inr ⟨hn, by rw [hS] <;> first | exact n0_eq | exact n1_eq | exact n2_eq, by rw [hS]⟩)
    · have hfo := bN_n0.mp hfo
      have hm := hrb.1.m v
      have hs := hrb.1.s (4 * v + n)
      refine g_aload_n hx hb d_MD_tell_23 rfl rfl ?_
      refine g_get hx hb hts (in_mw in_MD) hown hK.1 w_M rfl 11 (by decide) (hts _ (List.mem_cons_of_mem _ t_326)) rfl d_MD_tell_24 ?_
      refine g_iload_n hx hb d_MD_tell_27 rfl rfl ?_
      refine g_iald hx hb hK.1 (w_Ma (c := 80) (by decide) (by decide)) 0 rfl (show _ < 16 by omega) (by decide) rfl d_MD_tell_28 ?_
      refine g_iload_n hx hb d_MD_tell_29 rfl rfl ?_
      refine n_ishr hx hb d_MD_tell_30 (by omega) (by omega) ?_
      refine g_iconst hx hb d_MD_tell_31 k_iconst_1 ?_
      refine n_iand hx hb d_MD_tell_32 ?_
      refine g_val (show nI _ = nI (V 80 v / 2 ^ n % 2) from congrArg nI (Nat.and_one_is_mod _)) ?_
      refine n_if_ne (tgt := 39) hx hb d_MD_tell_33 (by decide) (by omega) (fun hbit => ?_) (fun hbit => ?_)
      · refine g_aload_n hx hb d_MD_tell_39 rfl rfl ?_
        refine g_get hx hb hts (in_mw in_MD) hown hK.1 w_M rfl 6 (by decide) (hts _ (List.mem_cons_of_mem _ t_321)) rfl d_MD_tell_40 ?_
        refine g_iload_n hx hb d_MD_tell_43 rfl rfl ?_
        refine g_iald hx hb hK.1 (w_Ma (c := 76) (by decide) (by decide)) 0 rfl (show _ < 4 by omega) (by decide) rfl d_MD_tell_44 ?_
        refine g_iload_n hx hb d_MD_tell_45 rfl rfl ?_
        refine n_icmp_lt (tgt := 52) hx hb d_MD_tell_46 (by decide) (by omega) (by omega) (fun hgt => ?_) (fun hgt => ?_)
        · refine g_aload_n hx hb d_MD_tell_52 rfl rfl ?_
          refine g_get hx hb hts (in_mw in_MD) hown hK.1 w_M rfl 12 (by decide) (hts _ (List.mem_cons_of_mem _ t_327)) rfl d_MD_tell_53 ?_
          refine g_iconst hx hb d_MD_tell_56 k_iconst_4 ?_
          refine g_iload_n hx hb d_MD_tell_57 rfl rfl ?_
          refine n_imul hx hb d_MD_tell_58 ?_
          refine g_iload_n hx hb d_MD_tell_59 rfl rfl ?_
          refine n_iadd hx hb d_MD_tell_60 ?_
          refine g_iald hx hb hK.1 (w_Ma (c := 81) (by decide) (by decide)) 0 rfl (show _ < 64 by omega) (by decide) rfl d_MD_tell_61 ?_
          refine g_aload_n hx hb d_MD_tell_62 rfl rfl ?_
          refine g_get hx hb hts (in_mw in_MD) hown hK.1 w_M rfl 1 (by decide) (hts _ (List.mem_cons_of_mem _ t_316)) rfl d_MD_tell_63 ?_
          refine g_iload_n hx hb d_MD_tell_66 rfl rfl ?_
          refine g_iald hx hb hK.1 (w_Ma (c := 71) (by decide) (by decide)) 0 rfl (show _ < 4 by omega) (by decide) rfl d_MD_tell_67 ?_
          refine n_icmp_eq (tgt := 74) hx hb d_MD_tell_68 (by decide) (by omega) (by omega) (fun hst => ?_) (fun hst => ?_)
          · refine g_aload_n hx hb d_MD_tell_74 rfl rfl ?_
            refine g_get hx hb hts (in_mw in_MD) hown hK.1 w_M rfl 6 (by decide) (hts _ (List.mem_cons_of_mem _ t_321)) rfl d_MD_tell_75 ?_
            refine g_iload_n hx hb d_MD_tell_78 rfl rfl ?_
            refine g_iload_n hx hb d_MD_tell_79 rfl rfl ?_
            refine g_iast hx hb hK.1 (gw_D had) (w_Ma (c := 76) (by decide) (by decide)) 0 rfl (show _ < 4 by omega) (by decide) d_MD_tell_80 (s_Ma (c := 76) (by decide) (by decide) _ _) ?_
            refine g_aload_n hx hb d_MD_tell_81 rfl rfl ?_
            refine g_get hx hb hts (in_mw in_MD) hown hK.1 w_M rfl 5 (by decide) (hts _ (List.mem_cons_of_mem _ t_320)) rfl d_MD_tell_82 ?_
            refine g_iload_n hx hb d_MD_tell_85 rfl rfl ?_
            refine g_iload_n hx hb d_MD_tell_86 rfl rfl ?_
            refine g_iast hx hb hK.1 (gw_D had) (w_Ma (c := 75) (by decide) (by decide)) 0 rfl (show _ < 4 by omega) (by decide) d_MD_tell_87 (s_Ma (c := 75) (by decide) (by decide) _ _) ?_
            refine g_iconst hx hb d_MD_tell_88 k_iconst_0 ?_
            have hS : rTell V n v = (0, pt (pt V 76 n v) 75 n v) := by unfold rTell; rw [if_neg (not_not_intro ⟨hfo.1, hfo.2, hbit⟩), if_neg (by omega), if_neg (not_not_intro hst)]
            exact g_iret hx hb hr hlk d_MD_tell_89 (Or.inr ⟨hn, by rw [hS] <;> first | exact n0_eq | exact n1_eq | exact n2_eq, by rw [hS]⟩)
          · refine g_bipush hx hb d_MD_tell_71 k_bipush_m4 ?_
            have hS : rTell V n v = (-4, V) := by unfold rTell; rw [if_neg (not_not_intro ⟨hfo.1, hfo.2, hbit⟩), if_neg (by omega), if_pos hst]
            exact g_iret hx hb hr hlk d_MD_tell_73 (Or.inr ⟨hn, by rw [hS] <;> first | exact n0_eq | exact n1_eq | exact n2_eq, by rw [hS]⟩)
        · refine g_bipush hx hb d_MD_tell_49 k_bipush_m3 ?_
          have hS : rTell V n v = (-3, V) := by unfold rTell; rw [if_neg (not_not_intro ⟨hfo.1, hfo.2, hbit⟩), if_pos hgt]
          exact g_iret hx hb hr hlk d_MD_tell_51 (Or.inr ⟨hn, by rw [hS] <;> first | exact n0_eq | exact n1_eq | exact n2_eq, by rw [hS]⟩)
      · refine g_bipush hx hb d_MD_tell_36 k_bipush_m2 ?_
        have hS : rTell V n v = (-2, V) := by unfold rTell; rw [if_pos (fun z => z.2.2 hbit)]
        exact g_iret hx hb hr hlk d_MD_tell_38 (Or.inr ⟨hn, by rw [hS] <;> first | exact n0_eq | exact n1_eq | exact n2_eq, by rw [hS]⟩)
  · have hn := bN_0.mp hn
    have hn : ¬ n < 4 := by omega
    refine g_iconst hx hb d_MD_tell_9 k_iconst_m1 ?_
    exact g_iret hx hb hr hlk d_MD_tell_10 (Or.inl ⟨hn, rfl, rfl⟩)
set_option maxRecDepth 100000 in
set_option maxHeartbeats 4000000 in
theorem ct_MD_view (l : Launch) (D : va_G) (ad : Nat → Nat) (ct : Nat → ClassId) (had : adOk ad) (V : VV) (n : Nat) (h1 : n < 2 ^ 32) : CTi l y_MD_view (mw y_MD_view c_MD_view 2 (some .int)) { frames := 1, cells := 0, slots := 0, locals := 22 } (gK D ct) D vcl (gA ad) [.ref (ad 69), .int (nI n)] (gw ad ct V) (fun r w => (¬ n < 4 ∧ r = -1 ∧ w = gw ad ct V) ∨ (n < 4 ∧ r = nI (V 70 n) ∧ w = gw ad ct V)) := by
  refine ct_i (by decide) rfl rfl (Nat.le_of_ble_eq_true rfl) ?_
  intro pg en sx mx blw mth cdx hx hb hr hts hown hlk hml hK
  refine g_L (L' := [_, _]) rfl ?_
  refine g_iload_n hx hb d_MD_view_0 rfl rfl ?_
  refine g_iconst hx hb d_MD_view_1 k_iconst_0 ?_
  refine g_iconst hx hb d_MD_view_2 k_iconst_3 ?_
  refine g_callSi (nn := 3) ⟨hx, hb, hml.trans rfl, hown, hts⟩ (ct_MD_within l D ad ct had _ _ _ _ (by omega) (by omega) (by omega)) (mk_S hts t_390 t_391 t_4 t_392 rfl rfl (by decide +kernel) ⟨Nat.le_of_ble_eq_true rfl, Nat.le_of_ble_eq_true rfl⟩) (fun _ h => h) (gK_ok D ct) hK (Nat.le_of_ble_eq_true rfl) ⟨Nat.zero_le _, Nat.zero_le _⟩ rfl rfl d_MD_view_3 ?_
  rintro _ _ ⟨rfl, rfl⟩
  refine n_if_eq (tgt := 18) hx hb d_MD_view_6 (by decide) bN_lt (fun hn => ?_) (fun hn => ?_)
  · have hn := bN_0.mp hn
    have hn : ¬ n < 4 := by omega
    refine g_iconst hx hb d_MD_view_18 k_iconst_m1 ?_
    exact g_iret hx hb hr hlk d_MD_view_19 (Or.inl ⟨hn, rfl, rfl⟩)
  · have hn := bN_n0.mp hn
    have hn : n < 4 := by omega
    refine g_aload_n hx hb d_MD_view_9 rfl rfl ?_
    refine g_get hx hb hts (in_mw in_MD) hown hK.1 w_M rfl 0 (by decide) (hts _ (List.mem_cons_of_mem _ t_315)) rfl d_MD_view_10 ?_
    refine g_iload_n hx hb d_MD_view_13 rfl rfl ?_
    refine g_iald hx hb hK.1 (w_Ma (c := 70) (by decide) (by decide)) 0 rfl (show _ < 4 by omega) (by decide) rfl d_MD_view_14 ?_
    refine g_goto (tgt := 19) hx hb d_MD_view_15 (by decide) ?_
    exact g_iret hx hb hr hlk d_MD_view_19 (Or.inr ⟨hn, rfl, rfl⟩)
set_option maxRecDepth 100000 in
set_option maxHeartbeats 4000000 in
theorem ct_MD_pending (l : Launch) (D : va_G) (ad : Nat → Nat) (ct : Nat → ClassId) (had : adOk ad) (V : VV) (n : Nat) (h1 : n < 2 ^ 32) : CTi l y_MD_pending (mw y_MD_pending c_MD_pending 2 (some .int)) { frames := 1, cells := 0, slots := 0, locals := 22 } (gK D ct) D vcl (gA ad) [.ref (ad 69), .int (nI n)] (gw ad ct V) (fun r w => (¬ n < 4 ∧ r = -1 ∧ w = gw ad ct V) ∨ (n < 4 ∧ r = nI (V 75 n) ∧ w = gw ad ct V)) := by
  refine ct_i (by decide) rfl rfl (Nat.le_of_ble_eq_true rfl) ?_
  intro pg en sx mx blw mth cdx hx hb hr hts hown hlk hml hK
  refine g_L (L' := [_, _]) rfl ?_
  refine g_iload_n hx hb d_MD_pending_0 rfl rfl ?_
  refine g_iconst hx hb d_MD_pending_1 k_iconst_0 ?_
  refine g_iconst hx hb d_MD_pending_2 k_iconst_3 ?_
  refine g_callSi (nn := 3) ⟨hx, hb, hml.trans rfl, hown, hts⟩ (ct_MD_within l D ad ct had _ _ _ _ (by omega) (by omega) (by omega)) (mk_S hts t_390 t_391 t_4 t_392 rfl rfl (by decide +kernel) ⟨Nat.le_of_ble_eq_true rfl, Nat.le_of_ble_eq_true rfl⟩) (fun _ h => h) (gK_ok D ct) hK (Nat.le_of_ble_eq_true rfl) ⟨Nat.zero_le _, Nat.zero_le _⟩ rfl rfl d_MD_pending_3 ?_
  rintro _ _ ⟨rfl, rfl⟩
  refine n_if_eq (tgt := 18) hx hb d_MD_pending_6 (by decide) bN_lt (fun hn => ?_) (fun hn => ?_)
  · have hn := bN_0.mp hn
    have hn : ¬ n < 4 := by omega
    refine g_iconst hx hb d_MD_pending_18 k_iconst_m1 ?_
    exact g_iret hx hb hr hlk d_MD_pending_19 (Or.inl ⟨hn, rfl, rfl⟩)
  · have hn := bN_n0.mp hn
    have hn : n < 4 := by omega
    refine g_aload_n hx hb d_MD_pending_9 rfl rfl ?_
    refine g_get hx hb hts (in_mw in_MD) hown hK.1 w_M rfl 5 (by decide) (hts _ (List.mem_cons_of_mem _ t_320)) rfl d_MD_pending_10 ?_
    refine g_iload_n hx hb d_MD_pending_13 rfl rfl ?_
    refine g_iald hx hb hK.1 (w_Ma (c := 75) (by decide) (by decide)) 0 rfl (show _ < 4 by omega) (by decide) rfl d_MD_pending_14 ?_
    refine g_goto (tgt := 19) hx hb d_MD_pending_15 (by decide) ?_
    exact g_iret hx hb hr hlk d_MD_pending_19 (Or.inr ⟨hn, rfl, rfl⟩)
set_option maxRecDepth 100000 in
set_option maxHeartbeats 4000000 in
theorem ct_MD_changes (l : Launch) (D : va_G) (ad : Nat → Nat) (ct : Nat → ClassId) (had : adOk ad) (V : VV) (n : Nat) (h1 : n < 2 ^ 32) : CTi l y_MD_changes (mw y_MD_changes c_MD_changes 2 (some .int)) { frames := 1, cells := 0, slots := 0, locals := 22 } (gK D ct) D vcl (gA ad) [.ref (ad 69), .int (nI n)] (gw ad ct V) (fun r w => (¬ n < 4 ∧ r = -1 ∧ w = gw ad ct V) ∨ (n < 4 ∧ r = nI (V 71 n) ∧ w = gw ad ct V)) := by
  refine ct_i (by decide) rfl rfl (Nat.le_of_ble_eq_true rfl) ?_
  intro pg en sx mx blw mth cdx hx hb hr hts hown hlk hml hK
  refine g_L (L' := [_, _]) rfl ?_
  refine g_iload_n hx hb d_MD_changes_0 rfl rfl ?_
  refine g_iconst hx hb d_MD_changes_1 k_iconst_0 ?_
  refine g_iconst hx hb d_MD_changes_2 k_iconst_3 ?_
  refine g_callSi (nn := 3) ⟨hx, hb, hml.trans rfl, hown, hts⟩ (ct_MD_within l D ad ct had _ _ _ _ (by omega) (by omega) (by omega)) (mk_S hts t_390 t_391 t_4 t_392 rfl rfl (by decide +kernel) ⟨Nat.le_of_ble_eq_true rfl, Nat.le_of_ble_eq_true rfl⟩) (fun _ h => h) (gK_ok D ct) hK (Nat.le_of_ble_eq_true rfl) ⟨Nat.zero_le _, Nat.zero_le _⟩ rfl rfl d_MD_changes_3 ?_
  rintro _ _ ⟨rfl, rfl⟩
  refine n_if_eq (tgt := 18) hx hb d_MD_changes_6 (by decide) bN_lt (fun hn => ?_) (fun hn => ?_)
  · have hn := bN_0.mp hn
    have hn : ¬ n < 4 := by omega
    refine g_iconst hx hb d_MD_changes_18 k_iconst_m1 ?_
    exact g_iret hx hb hr hlk d_MD_changes_19 (Or.inl ⟨hn, rfl, rfl⟩)
  · have hn := bN_n0.mp hn
    have hn : n < 4 := by omega
    refine g_aload_n hx hb d_MD_changes_9 rfl rfl ?_
    refine g_get hx hb hts (in_mw in_MD) hown hK.1 w_M rfl 1 (by decide) (hts _ (List.mem_cons_of_mem _ t_316)) rfl d_MD_changes_10 ?_
    refine g_iload_n hx hb d_MD_changes_13 rfl rfl ?_
    refine g_iald hx hb hK.1 (w_Ma (c := 71) (by decide) (by decide)) 0 rfl (show _ < 4 by omega) (by decide) rfl d_MD_changes_14 ?_
    refine g_goto (tgt := 19) hx hb d_MD_changes_15 (by decide) ?_
    exact g_iret hx hb hr hlk d_MD_changes_19 (Or.inr ⟨hn, rfl, rfl⟩)
set_option maxRecDepth 100000 in
set_option maxHeartbeats 4000000 in
theorem ct_MD_sent (l : Launch) (D : va_G) (ad : Nat → Nat) (ct : Nat → ClassId) (had : adOk ad) (V : VV) (n : Nat) (h1 : n < 2 ^ 32) : CTi l y_MD_sent (mw y_MD_sent c_MD_sent 2 (some .int)) { frames := 1, cells := 0, slots := 0, locals := 22 } (gK D ct) D vcl (gA ad) [.ref (ad 69), .int (nI n)] (gw ad ct V) (fun r w => (¬ n < 4 ∧ r = -1 ∧ w = gw ad ct V) ∨ (n < 4 ∧ r = nI (V 77 n) ∧ w = gw ad ct V)) := by
  refine ct_i (by decide) rfl rfl (Nat.le_of_ble_eq_true rfl) ?_
  intro pg en sx mx blw mth cdx hx hb hr hts hown hlk hml hK
  refine g_L (L' := [_, _]) rfl ?_
  refine g_iload_n hx hb d_MD_sent_0 rfl rfl ?_
  refine g_iconst hx hb d_MD_sent_1 k_iconst_0 ?_
  refine g_iconst hx hb d_MD_sent_2 k_iconst_3 ?_
  refine g_callSi (nn := 3) ⟨hx, hb, hml.trans rfl, hown, hts⟩ (ct_MD_within l D ad ct had _ _ _ _ (by omega) (by omega) (by omega)) (mk_S hts t_390 t_391 t_4 t_392 rfl rfl (by decide +kernel) ⟨Nat.le_of_ble_eq_true rfl, Nat.le_of_ble_eq_true rfl⟩) (fun _ h => h) (gK_ok D ct) hK (Nat.le_of_ble_eq_true rfl) ⟨Nat.zero_le _, Nat.zero_le _⟩ rfl rfl d_MD_sent_3 ?_
  rintro _ _ ⟨rfl, rfl⟩
  refine n_if_eq (tgt := 18) hx hb d_MD_sent_6 (by decide) bN_lt (fun hn => ?_) (fun hn => ?_)
  · have hn := bN_0.mp hn
    have hn : ¬ n < 4 := by omega
    refine g_iconst hx hb d_MD_sent_18 k_iconst_m1 ?_
    exact g_iret hx hb hr hlk d_MD_sent_19 (Or.inl ⟨hn, rfl, rfl⟩)
  · have hn := bN_n0.mp hn
    have hn : n < 4 := by omega
    refine g_aload_n hx hb d_MD_sent_9 rfl rfl ?_
    refine g_get hx hb hts (in_mw in_MD) hown hK.1 w_M rfl 7 (by decide) (hts _ (List.mem_cons_of_mem _ t_322)) rfl d_MD_sent_10 ?_
    refine g_iload_n hx hb d_MD_sent_13 rfl rfl ?_
    refine g_iald hx hb hK.1 (w_Ma (c := 77) (by decide) (by decide)) 0 rfl (show _ < 4 by omega) (by decide) rfl d_MD_sent_14 ?_
    refine g_goto (tgt := 19) hx hb d_MD_sent_15 (by decide) ?_
    exact g_iret hx hb hr hlk d_MD_sent_19 (Or.inr ⟨hn, rfl, rfl⟩)
set_option maxRecDepth 100000 in
set_option maxHeartbeats 4000000 in
theorem ct_MD_event (l : Launch) (D : va_G) (ad : Nat → Nat) (ct : Nat → ClassId) (had : adOk ad) (V : VV) (n i : Nat) (h1 : n < 2 ^ 32) (h2 : i < 2 ^ 32) : CTi l y_MD_event (mw y_MD_event c_MD_event 3 (some .int)) { frames := 1, cells := 0, slots := 0, locals := 22 } (gK D ct) D vcl (gA ad) [.ref (ad 69), .int (nI n), .int (nI i)] (gw ad ct V) (fun r w => (¬ (n < 4 ∧ i < 4) ∧ r = 0 ∧ w = gw ad ct V) ∨ ((n < 4 ∧ i < 4) ∧ r = nI (V 79 (4 * n + i)) ∧ w = gw ad ct V)) := by
  refine ct_i (by decide) rfl rfl (Nat.le_of_ble_eq_true rfl) ?_
  intro pg en sx mx blw mth cdx hx hb hr hts hown hlk hml hK
  refine g_L (L' := [_, _, _]) rfl ?_
  refine g_iload_n hx hb d_MD_event_0 rfl rfl ?_
  refine g_iconst hx hb d_MD_event_1 k_iconst_0 ?_
  refine g_iconst hx hb d_MD_event_2 k_iconst_3 ?_
  refine g_callSi (nn := 3) ⟨hx, hb, hml.trans rfl, hown, hts⟩ (ct_MD_within l D ad ct had _ _ _ _ (by omega) (by omega) (by omega)) (mk_S hts t_390 t_391 t_4 t_392 rfl rfl (by decide +kernel) ⟨Nat.le_of_ble_eq_true rfl, Nat.le_of_ble_eq_true rfl⟩) (fun _ h => h) (gK_ok D ct) hK (Nat.le_of_ble_eq_true rfl) ⟨Nat.zero_le _, Nat.zero_le _⟩ rfl rfl d_MD_event_3 ?_
  rintro _ _ ⟨rfl, rfl⟩
  refine n_if_eq (tgt := 31) hx hb d_MD_event_6 (by decide) bN_lt (fun hn => ?_) (fun hn => ?_)
  · have hn := bN_0.mp hn
    refine g_iconst hx hb d_MD_event_31 k_iconst_0 ?_
    exact g_iret hx hb hr hlk d_MD_event_32 (Or.inl ⟨by omega, rfl, rfl⟩)
  · have hn := bN_n0.mp hn
    refine g_iload_n hx hb d_MD_event_9 rfl rfl ?_
    refine g_iconst hx hb d_MD_event_10 k_iconst_0 ?_
    refine g_iconst hx hb d_MD_event_11 k_iconst_3 ?_
    refine g_callSi (nn := 3) ⟨hx, hb, hml.trans rfl, hown, hts⟩ (ct_MD_within l D ad ct had _ _ _ _ (by omega) (by omega) (by omega)) (mk_S hts t_390 t_391 t_4 t_392 rfl rfl (by decide +kernel) ⟨Nat.le_of_ble_eq_true rfl, Nat.le_of_ble_eq_true rfl⟩) (fun _ h => h) (gK_ok D ct) hK (Nat.le_of_ble_eq_true rfl) ⟨Nat.zero_le _, Nat.zero_le _⟩ rfl rfl d_MD_event_12 ?_
    rintro _ _ ⟨rfl, rfl⟩
    refine n_if_eq (tgt := 31) hx hb d_MD_event_15 (by decide) bN_lt (fun hi => ?_) (fun hi => ?_)
    · have hi := bN_0.mp hi
      refine g_iconst hx hb d_MD_event_31 k_iconst_0 ?_
      exact g_iret hx hb hr hlk d_MD_event_32 (Or.inl ⟨by omega, rfl, rfl⟩)
    · have hi := bN_n0.mp hi
      refine g_aload_n hx hb d_MD_event_18 rfl rfl ?_
      refine g_get hx hb hts (in_mw in_MD) hown hK.1 w_M rfl 9 (by decide) (hts _ (List.mem_cons_of_mem _ t_324)) rfl d_MD_event_19 ?_
      refine g_iconst hx hb d_MD_event_22 k_iconst_4 ?_
      refine g_iload_n hx hb d_MD_event_23 rfl rfl ?_
      refine n_imul hx hb d_MD_event_24 ?_
      refine g_iload_n hx hb d_MD_event_25 rfl rfl ?_
      refine n_iadd hx hb d_MD_event_26 ?_
      refine g_iald hx hb hK.1 (w_Ma (c := 79) (by decide) (by decide)) 0 rfl (show _ < 16 by omega) (by decide) rfl d_MD_event_27 ?_
      refine g_goto (tgt := 32) hx hb d_MD_event_28 (by decide) ?_
      exact g_iret hx hb hr hlk d_MD_event_32 (Or.inr ⟨by omega, rfl, rfl⟩)
set_option maxRecDepth 100000 in
set_option maxHeartbeats 4000000 in
theorem ct_MD_members (l : Launch) (D : va_G) (ad : Nat → Nat) (ct : Nat → ClassId) (had : adOk ad) (V : VV) (v : Nat) (h2 : v < 2 ^ 32) (hrb : RB V) : CTi l y_MD_members (mw y_MD_members c_MD_members 2 (some .int)) { frames := 1, cells := 0, slots := 0, locals := 22 } (gK D ct) D vcl (gA ad) [.ref (ad 69), .int (nI v)] (gw ad ct V) (fun r w => (¬ (1 ≤ v ∧ v ≤ V 69 10) ∧ r = 0 ∧ w = gw ad ct V) ∨ ((1 ≤ v ∧ v ≤ V 69 10) ∧ r = nI (V 80 v) ∧ w = gw ad ct V)) := by
  refine ct_i (by decide) rfl rfl (Nat.le_of_ble_eq_true rfl) ?_
  intro pg en sx mx blw mth cdx hx hb hr hts hown hlk hml hK
  refine g_L (L' := [_, _]) rfl ?_
  have hv15 := hrb.1.v
  refine g_iload_n hx hb d_MD_members_0 rfl rfl ?_
  refine g_iconst hx hb d_MD_members_1 k_iconst_1 ?_
  refine g_aload_n hx hb d_MD_members_2 rfl rfl ?_
  refine g_get hx hb hts (in_mw in_MD) hown hK.1 w_M rfl 10 (by decide) (hts _ (List.mem_cons_of_mem _ t_325)) rfl d_MD_members_3 ?_
  refine g_callSi (nn := 3) ⟨hx, hb, hml.trans rfl, hown, hts⟩ (ct_MD_within l D ad ct had _ _ _ _ (by omega) (by omega) (by omega)) (mk_S hts t_390 t_391 t_4 t_392 rfl rfl (by decide +kernel) ⟨Nat.le_of_ble_eq_true rfl, Nat.le_of_ble_eq_true rfl⟩) (fun _ h => h) (gK_ok D ct) hK (Nat.le_of_ble_eq_true rfl) ⟨Nat.zero_le _, Nat.zero_le _⟩ rfl rfl d_MD_members_6 ?_
  rintro _ _ ⟨rfl, rfl⟩
  refine n_if_eq (tgt := 21) hx hb d_MD_members_9 (by decide) bN_lt (fun hn => ?_) (fun hn => ?_)
  · have hn := bN_0.mp hn
    refine g_iconst hx hb d_MD_members_21 k_iconst_0 ?_
    exact g_iret hx hb hr hlk d_MD_members_22 (Or.inl ⟨hn, rfl, rfl⟩)
  · have hn := bN_n0.mp hn
    refine g_aload_n hx hb d_MD_members_12 rfl rfl ?_
    refine g_get hx hb hts (in_mw in_MD) hown hK.1 w_M rfl 11 (by decide) (hts _ (List.mem_cons_of_mem _ t_326)) rfl d_MD_members_13 ?_
    refine g_iload_n hx hb d_MD_members_16 rfl rfl ?_
    refine g_iald hx hb hK.1 (w_Ma (c := 80) (by decide) (by decide)) 0 rfl (show _ < 16 by omega) (by decide) rfl d_MD_members_17 ?_
    refine g_goto (tgt := 22) hx hb d_MD_members_18 (by decide) ?_
    exact g_iret hx hb hr hlk d_MD_members_22 (Or.inr ⟨hn, rfl, rfl⟩)
set_option maxRecDepth 100000 in
set_option maxHeartbeats 4000000 in
theorem ct_MD_start (l : Launch) (D : va_G) (ad : Nat → Nat) (ct : Nat → ClassId) (had : adOk ad) (V : VV) (v n : Nat) (h2 : v < 2 ^ 32) (h1 : n < 2 ^ 32) (hrb : RB V) : CTi l y_MD_start (mw y_MD_start c_MD_start 3 (some .int)) { frames := 1, cells := 0, slots := 0, locals := 22 } (gK D ct) D vcl (gA ad) [.ref (ad 69), .int (nI v), .int (nI n)] (gw ad ct V) (fun r w => (¬ ((1 ≤ v ∧ v ≤ V 69 10) ∧ n < 4) ∧ r = 0 ∧ w = gw ad ct V) ∨ (((1 ≤ v ∧ v ≤ V 69 10) ∧ n < 4) ∧ r = nI (V 81 (4 * v + n)) ∧ w = gw ad ct V)) := by
  refine ct_i (by decide) rfl rfl (Nat.le_of_ble_eq_true rfl) ?_
  intro pg en sx mx blw mth cdx hx hb hr hts hown hlk hml hK
  refine g_L (L' := [_, _, _]) rfl ?_
  have hv15 := hrb.1.v
  refine g_iload_n hx hb d_MD_start_0 rfl rfl ?_
  refine g_iconst hx hb d_MD_start_1 k_iconst_1 ?_
  refine g_aload_n hx hb d_MD_start_2 rfl rfl ?_
  refine g_get hx hb hts (in_mw in_MD) hown hK.1 w_M rfl 10 (by decide) (hts _ (List.mem_cons_of_mem _ t_325)) rfl d_MD_start_3 ?_
  refine g_callSi (nn := 3) ⟨hx, hb, hml.trans rfl, hown, hts⟩ (ct_MD_within l D ad ct had _ _ _ _ (by omega) (by omega) (by omega)) (mk_S hts t_390 t_391 t_4 t_392 rfl rfl (by decide +kernel) ⟨Nat.le_of_ble_eq_true rfl, Nat.le_of_ble_eq_true rfl⟩) (fun _ h => h) (gK_ok D ct) hK (Nat.le_of_ble_eq_true rfl) ⟨Nat.zero_le _, Nat.zero_le _⟩ rfl rfl d_MD_start_6 ?_
  rintro _ _ ⟨rfl, rfl⟩
  refine n_if_eq (tgt := 34) hx hb d_MD_start_9 (by decide) bN_lt (fun hfo => ?_) (fun hfo => ?_)
  · have hfo := bN_0.mp hfo
    refine g_iconst hx hb d_MD_start_34 k_iconst_0 ?_
    exact g_iret hx hb hr hlk d_MD_start_35 (Or.inl ⟨by omega, rfl, rfl⟩)
  · have hfo := bN_n0.mp hfo
    refine g_iload_n hx hb d_MD_start_12 rfl rfl ?_
    refine g_iconst hx hb d_MD_start_13 k_iconst_0 ?_
    refine g_iconst hx hb d_MD_start_14 k_iconst_3 ?_
    refine g_callSi (nn := 3) ⟨hx, hb, hml.trans rfl, hown, hts⟩ (ct_MD_within l D ad ct had _ _ _ _ (by omega) (by omega) (by omega)) (mk_S hts t_390 t_391 t_4 t_392 rfl rfl (by decide +kernel) ⟨Nat.le_of_ble_eq_true rfl, Nat.le_of_ble_eq_true rfl⟩) (fun _ h => h) (gK_ok D ct) hK (Nat.le_of_ble_eq_true rfl) ⟨Nat.zero_le _, Nat.zero_le _⟩ rfl rfl d_MD_start_15 ?_
    rintro _ _ ⟨rfl, rfl⟩
    refine n_if_eq (tgt := 34) hx hb d_MD_start_18 (by decide) bN_lt (fun hn => ?_) (fun hn => ?_)
    · have hn := bN_0.mp hn
      refine g_iconst hx hb d_MD_start_34 k_iconst_0 ?_
      exact g_iret hx hb hr hlk d_MD_start_35 (Or.inl ⟨by omega, rfl, rfl⟩)
    · have hn := bN_n0.mp hn
      refine g_aload_n hx hb d_MD_start_21 rfl rfl ?_
      refine g_get hx hb hts (in_mw in_MD) hown hK.1 w_M rfl 12 (by decide) (hts _ (List.mem_cons_of_mem _ t_327)) rfl d_MD_start_22 ?_
      refine g_iconst hx hb d_MD_start_25 k_iconst_4 ?_
      refine g_iload_n hx hb d_MD_start_26 rfl rfl ?_
      refine n_imul hx hb d_MD_start_27 ?_
      refine g_iload_n hx hb d_MD_start_28 rfl rfl ?_
      refine n_iadd hx hb d_MD_start_29 ?_
      refine g_iald hx hb hK.1 (w_Ma (c := 81) (by decide) (by decide)) 0 rfl (show _ < 64 by omega) (by decide) rfl d_MD_start_30 ?_
      refine g_goto (tgt := 35) hx hb d_MD_start_31 (by decide) ?_
      exact g_iret hx hb hr hlk d_MD_start_35 (Or.inr ⟨⟨hfo, by omega⟩, rfl, rfl⟩)
set_option maxRecDepth 100000 in
set_option maxHeartbeats 4000000 in
theorem ct_MD_blocked (l : Launch) (D : va_G) (ad : Nat → Nat) (ct : Nat → ClassId) (had : adOk ad) (V : VV) (n : Nat) (h1 : n < 2 ^ 32) (hrb : RB V) : CTi l y_MD_blocked (mw y_MD_blocked c_MD_blocked 2 (some .boolean)) { frames := 1, cells := 0, slots := 0, locals := 22 } (gK D ct) D vcl (gA ad) [.ref (ad 69), .int (nI n)] (gw ad ct V) (fun r w => (¬ n < 4 ∧ r = 0 ∧ w = gw ad ct V) ∨ (n < 4 ∧ r = nI (V 74 n) ∧ w = gw ad ct V)) := by
  refine ct_i (by decide) rfl rfl (Nat.le_of_ble_eq_true rfl) ?_
  intro pg en sx mx blw mth cdx hx hb hr hts hown hlk hml hK
  refine g_L (L' := [_, _]) rfl ?_
  refine g_iload_n hx hb d_MD_blocked_0 rfl rfl ?_
  refine g_iconst hx hb d_MD_blocked_1 k_iconst_0 ?_
  refine g_iconst hx hb d_MD_blocked_2 k_iconst_3 ?_
  refine g_callSi (nn := 3) ⟨hx, hb, hml.trans rfl, hown, hts⟩ (ct_MD_within l D ad ct had _ _ _ _ (by omega) (by omega) (by omega)) (mk_S hts t_390 t_391 t_4 t_392 rfl rfl (by decide +kernel) ⟨Nat.le_of_ble_eq_true rfl, Nat.le_of_ble_eq_true rfl⟩) (fun _ h => h) (gK_ok D ct) hK (Nat.le_of_ble_eq_true rfl) ⟨Nat.zero_le _, Nat.zero_le _⟩ rfl rfl d_MD_blocked_3 ?_
  rintro _ _ ⟨rfl, rfl⟩
  refine n_if_eq (tgt := 22) hx hb d_MD_blocked_6 (by decide) bN_lt (fun hn => ?_) (fun hn => ?_)
  · have hn := bN_0.mp hn
    have hn : ¬ n < 4 := by omega
    refine g_iconst hx hb d_MD_blocked_22 k_iconst_0 ?_
    exact g_zret hx hb hr hlk (by decide +kernel) d_MD_blocked_23 (Or.inl ⟨hn, rfl, rfl⟩)
  · have hn := bN_n0.mp hn
    have hn : n < 4 := by omega
    have hpa := hrb.1.p n hn
    refine g_aload_n hx hb d_MD_blocked_9 rfl rfl ?_
    refine g_get hx hb hts (in_mw in_MD) hown hK.1 w_M rfl 4 (by decide) (hts _ (List.mem_cons_of_mem _ t_319)) rfl d_MD_blocked_10 ?_
    refine g_iload_n hx hb d_MD_blocked_13 rfl rfl ?_
    refine g_zald hx hb hK.1 (w_Ma (c := 74) (by decide) (by decide)) 1 rfl (show _ < 4 by omega) (by decide) rfl d_MD_blocked_14 ?_
    refine n_if_eq (tgt := 22) hx hb d_MD_blocked_15 (by decide) (by omega) (fun hbl => ?_) (fun hbl => ?_)
    · refine g_iconst hx hb d_MD_blocked_22 k_iconst_0 ?_
      exact g_zret hx hb hr hlk (by decide +kernel) d_MD_blocked_23 (Or.inr ⟨hn, congrArg nI (by omega), rfl⟩)
    · refine g_iconst hx hb d_MD_blocked_18 k_iconst_1 ?_
      refine g_goto (tgt := 23) hx hb d_MD_blocked_19 (by decide) ?_
      exact g_zret hx hb hr hlk (by decide +kernel) d_MD_blocked_23 (Or.inr ⟨hn, congrArg nI (by omega), rfl⟩)
set_option maxRecDepth 100000 in
set_option maxHeartbeats 4000000 in
theorem ct_MD_delivered (l : Launch) (D : va_G) (ad : Nat → Nat) (ct : Nat → ClassId) (had : adOk ad) (V : VV) (n q : Nat) (h1 : n < 2 ^ 32) (h2 : q < 2 ^ 32) : CTi l y_MD_delivered (mw y_MD_delivered c_MD_delivered 3 (some .int)) { frames := 1, cells := 0, slots := 0, locals := 22 } (gK D ct) D vcl (gA ad) [.ref (ad 69), .int (nI n), .int (nI q)] (gw ad ct V) (fun r w => (¬ (n < 4 ∧ q < 4) ∧ r = -1 ∧ w = gw ad ct V) ∨ ((n < 4 ∧ q < 4) ∧ r = nI (V 78 (4 * n + q)) ∧ w = gw ad ct V)) := by
  refine ct_i (by decide) rfl rfl (Nat.le_of_ble_eq_true rfl) ?_
  intro pg en sx mx blw mth cdx hx hb hr hts hown hlk hml hK
  refine g_L (L' := [_, _, _]) rfl ?_
  refine g_iload_n hx hb d_MD_delivered_0 rfl rfl ?_
  refine g_iconst hx hb d_MD_delivered_1 k_iconst_0 ?_
  refine g_iconst hx hb d_MD_delivered_2 k_iconst_3 ?_
  refine g_callSi (nn := 3) ⟨hx, hb, hml.trans rfl, hown, hts⟩ (ct_MD_within l D ad ct had _ _ _ _ (by omega) (by omega) (by omega)) (mk_S hts t_390 t_391 t_4 t_392 rfl rfl (by decide +kernel) ⟨Nat.le_of_ble_eq_true rfl, Nat.le_of_ble_eq_true rfl⟩) (fun _ h => h) (gK_ok D ct) hK (Nat.le_of_ble_eq_true rfl) ⟨Nat.zero_le _, Nat.zero_le _⟩ rfl rfl d_MD_delivered_3 ?_
  rintro _ _ ⟨rfl, rfl⟩
  refine n_if_eq (tgt := 31) hx hb d_MD_delivered_6 (by decide) bN_lt (fun hn => ?_) (fun hn => ?_)
  · have hn := bN_0.mp hn
    refine g_iconst hx hb d_MD_delivered_31 k_iconst_m1 ?_
    exact g_iret hx hb hr hlk d_MD_delivered_32 (Or.inl ⟨by omega, rfl, rfl⟩)
  · have hn := bN_n0.mp hn
    refine g_iload_n hx hb d_MD_delivered_9 rfl rfl ?_
    refine g_iconst hx hb d_MD_delivered_10 k_iconst_0 ?_
    refine g_iconst hx hb d_MD_delivered_11 k_iconst_3 ?_
    refine g_callSi (nn := 3) ⟨hx, hb, hml.trans rfl, hown, hts⟩ (ct_MD_within l D ad ct had _ _ _ _ (by omega) (by omega) (by omega)) (mk_S hts t_390 t_391 t_4 t_392 rfl rfl (by decide +kernel) ⟨Nat.le_of_ble_eq_true rfl, Nat.le_of_ble_eq_true rfl⟩) (fun _ h => h) (gK_ok D ct) hK (Nat.le_of_ble_eq_true rfl) ⟨Nat.zero_le _, Nat.zero_le _⟩ rfl rfl d_MD_delivered_12 ?_
    rintro _ _ ⟨rfl, rfl⟩
    refine n_if_eq (tgt := 31) hx hb d_MD_delivered_15 (by decide) bN_lt (fun hq => ?_) (fun hq => ?_)
    · have hq := bN_0.mp hq
      refine g_iconst hx hb d_MD_delivered_31 k_iconst_m1 ?_
      exact g_iret hx hb hr hlk d_MD_delivered_32 (Or.inl ⟨by omega, rfl, rfl⟩)
    · have hq := bN_n0.mp hq
      refine g_aload_n hx hb d_MD_delivered_18 rfl rfl ?_
      refine g_get hx hb hts (in_mw in_MD) hown hK.1 w_M rfl 8 (by decide) (hts _ (List.mem_cons_of_mem _ t_323)) rfl d_MD_delivered_19 ?_
      refine g_iconst hx hb d_MD_delivered_22 k_iconst_4 ?_
      refine g_iload_n hx hb d_MD_delivered_23 rfl rfl ?_
      refine n_imul hx hb d_MD_delivered_24 ?_
      refine g_iload_n hx hb d_MD_delivered_25 rfl rfl ?_
      refine n_iadd hx hb d_MD_delivered_26 ?_
      refine g_iald hx hb hK.1 (w_Ma (c := 78) (by decide) (by decide)) 0 rfl (show _ < 16 by omega) (by decide) rfl d_MD_delivered_27 ?_
      refine g_goto (tgt := 32) hx hb d_MD_delivered_28 (by decide) ?_
      exact g_iret hx hb hr hlk d_MD_delivered_32 (Or.inr ⟨by omega, rfl, rfl⟩)
set_option maxRecDepth 100000 in
set_option maxHeartbeats 4000000 in
theorem ct_MD_known (l : Launch) (D : va_G) (ad : Nat → Nat) (ct : Nat → ClassId) (had : adOk ad) (V : VV) (n q : Nat) (h1 : n < 2 ^ 32) (h2 : q < 2 ^ 32) (hrb : RB V) : CTi l y_MD_known (mw y_MD_known c_MD_known 5 (some .int)) { frames := 1, cells := 0, slots := 0, locals := 22 } (gK D ct) D vcl (gA ad) [.ref (ad 69), .int (nI n), .int (nI q)] (gw ad ct V) (fun r w => (¬ (n < 4 ∧ q < 4) ∧ r = -1 ∧ w = gw ad ct V) ∨ ((n < 4 ∧ q < 4) ∧ r = nI (rcn V (256 * n + 16 * V 70 n + 4 * q) 4) ∧ w = gw ad ct V)) := by
  refine ct_i (by decide) rfl rfl (Nat.le_of_ble_eq_true rfl) ?_
  intro pg en sx mx blw mth cdx hx hb hr hts hown hlk hml hK
  refine g_L (L' := [_, _, _, _, _]) rfl ?_
  refine g_iload_n hx hb d_MD_known_0 rfl rfl ?_
  refine g_iconst hx hb d_MD_known_1 k_iconst_0 ?_
  refine g_iconst hx hb d_MD_known_2 k_iconst_3 ?_
  refine g_callSi (nn := 3) ⟨hx, hb, hml.trans rfl, hown, hts⟩ (ct_MD_within l D ad ct had _ _ _ _ (by omega) (by omega) (by omega)) (mk_S hts t_390 t_391 t_4 t_392 rfl rfl (by decide +kernel) ⟨Nat.le_of_ble_eq_true rfl, Nat.le_of_ble_eq_true rfl⟩) (fun _ h => h) (gK_ok D ct) hK (Nat.le_of_ble_eq_true rfl) ⟨Nat.zero_le _, Nat.zero_le _⟩ rfl rfl d_MD_known_3 ?_
  rintro _ _ ⟨rfl, rfl⟩
  refine n_if_eq (tgt := 18) hx hb d_MD_known_6 (by decide) bN_lt (fun hn => ?_) (fun hn => ?_)
  · have hn := bN_0.mp hn
    refine g_iconst hx hb d_MD_known_18 k_iconst_m1 ?_
    exact g_iret hx hb hr hlk d_MD_known_19 (Or.inl ⟨by omega, rfl, rfl⟩)
  · have hn := bN_n0.mp hn
    have hn : n < 4 := by omega
    have hpa := hrb.1.p n hn
    have hv15 := hrb.1.v
    refine g_iload_n hx hb d_MD_known_9 rfl rfl ?_
    refine g_iconst hx hb d_MD_known_10 k_iconst_0 ?_
    refine g_iconst hx hb d_MD_known_11 k_iconst_3 ?_
    refine g_callSi (nn := 3) ⟨hx, hb, hml.trans rfl, hown, hts⟩ (ct_MD_within l D ad ct had _ _ _ _ (by omega) (by omega) (by omega)) (mk_S hts t_390 t_391 t_4 t_392 rfl rfl (by decide +kernel) ⟨Nat.le_of_ble_eq_true rfl, Nat.le_of_ble_eq_true rfl⟩) (fun _ h => h) (gK_ok D ct) hK (Nat.le_of_ble_eq_true rfl) ⟨Nat.zero_le _, Nat.zero_le _⟩ rfl rfl d_MD_known_12 ?_
    rintro _ _ ⟨rfl, rfl⟩
    refine n_if_ne (tgt := 20) hx hb d_MD_known_15 (by decide) bN_lt (fun hq => ?_) (fun hq => ?_)
    · have hq := bN_n0.mp hq
      refine g_iconst hx hb d_MD_known_20 k_iconst_0 ?_
      refine g_istore_n (L' := [_, _, _, _, _]) hx hb d_MD_known_21 rfl (Nat.le_of_ble_eq_true rfl) rfl ?_
      refine g_iconst hx hb d_MD_known_22 k_iconst_0 ?_
      refine g_istore (L' := [_, _, _, _, _]) hx hb d_MD_known_23 (Nat.le_of_ble_eq_true rfl) rfl ?_
      refine g_loop 4 (fun k => gw ad ct V) (fun k => [some (.ref (ad 69)), some (.int (nI n)), some (.int (nI q)), some (.int (nI (rcn V (256 * n + 16 * V 70 n + 4 * q) k))), some (.int (nI k))]) (fun k => True) 0 (by omega) trivial rfl rfl ?_
      intro k hq0_k hqE_k hI_k ih_k
      try dsimp only
      refine g_iload hx hb d_MD_known_25 rfl ?_
      refine g_iconst hx hb d_MD_known_27 k_iconst_4 ?_
      refine n_icmp_ge (tgt := 70) hx hb d_MD_known_28 (by decide) (by omega) (by omega) (fun hc1 => ?_) (fun hc1 => ?_)
      · have hk4 : k = 4 := by omega
        subst hk4
        refine g_iload_n hx hb d_MD_known_70 rfl rfl ?_
        exact g_iret hx hb hr hlk d_MD_known_71 (Or.inr ⟨by omega, rfl, rfl⟩)
      · have hkk := hrb.1.kn ((256 * n + 16 * V 70 n + 4 * q) + k)
        refine g_aload_n hx hb d_MD_known_31 rfl rfl ?_
        refine g_get hx hb hts (in_mw in_MD) hown hK.1 w_M rfl 15 (by decide) (hts _ (List.mem_cons_of_mem _ t_330)) rfl d_MD_known_32 ?_
        refine g_sipush hx hb d_MD_known_35 k_sipush_256 ?_
        refine g_iload_n hx hb d_MD_known_38 rfl rfl ?_
        refine n_imul hx hb d_MD_known_39 ?_
        refine g_bipush hx hb d_MD_known_40 k_bipush_16 ?_
        refine g_aload_n hx hb d_MD_known_42 rfl rfl ?_
        refine g_get hx hb hts (in_mw in_MD) hown hK.1 w_M rfl 0 (by decide) (hts _ (List.mem_cons_of_mem _ t_315)) rfl d_MD_known_43 ?_
        refine g_iload_n hx hb d_MD_known_46 rfl rfl ?_
        refine g_iald hx hb hK.1 (w_Ma (c := 70) (by decide) (by decide)) 0 rfl (show _ < 4 by omega) (by decide) rfl d_MD_known_47 ?_
        refine n_imul hx hb d_MD_known_48 ?_
        refine n_iadd hx hb d_MD_known_49 ?_
        refine g_iconst hx hb d_MD_known_50 k_iconst_4 ?_
        refine g_iload_n hx hb d_MD_known_51 rfl rfl ?_
        refine n_imul hx hb d_MD_known_52 ?_
        refine n_iadd hx hb d_MD_known_53 ?_
        refine g_iload hx hb d_MD_known_54 rfl ?_
        refine n_iadd hx hb d_MD_known_56 ?_
        refine g_zald hx hb hK.1 (w_Ma (c := 84) (by decide) (by decide)) 1 rfl (show _ < 1024 by omega) (by decide) rfl d_MD_known_57 ?_
        refine n_if_eq (tgt := 64) hx hb d_MD_known_58 (by decide) (by omega) (fun hkn => ?_) (fun hkn => ?_)
        · refine n_iinc (L' := [_, _, _, _, _]) hx hb d_MD_known_64 rfl rfl ?_
          refine g_goto (tgt := 25) hx hb d_MD_known_67 (by decide) ?_
          exact (show rcn V (256 * n + 16 * V 70 n + 4 * q) (k + 1) = _ from by rw [rcn, if_pos hkn]) ▸ ih_k (by omega) trivial
        · refine n_iinc (L' := [_, _, _, _, _]) hx hb d_MD_known_61 rfl rfl ?_
          refine n_iinc (L' := [_, _, _, _, _]) hx hb d_MD_known_64 rfl rfl ?_
          refine g_goto (tgt := 25) hx hb d_MD_known_67 (by decide) ?_
          exact (show rcn V (256 * n + 16 * V 70 n + 4 * q) (k + 1) = _ from by rw [rcn, if_neg hkn]) ▸ ih_k (by omega) trivial
    · have hq := bN_0.mp hq
      refine g_iconst hx hb d_MD_known_18 k_iconst_m1 ?_
      exact g_iret hx hb hr hlk d_MD_known_19 (Or.inl ⟨by omega, rfl, rfl⟩)
set_option maxRecDepth 100000 in
set_option maxHeartbeats 4000000 in
theorem ct_MD_waiting (l : Launch) (D : va_G) (ad : Nat → Nat) (ct : Nat → ClassId) (had : adOk ad) (V : VV) (p q : Nat) (h1 : p < 2 ^ 32) (h2 : q < 2 ^ 32) : CTi l y_MD_waiting (mw y_MD_waiting c_MD_waiting 3 (some .int)) { frames := 1, cells := 0, slots := 0, locals := 22 } (gK D ct) D vcl (gA ad) [.ref (ad 69), .int (nI p), .int (nI q)] (gw ad ct V) (fun r w => (¬ (p < 4 ∧ q < 4 ∧ ¬ p = q) ∧ r = -1 ∧ w = gw ad ct V) ∨ ((p < 4 ∧ q < 4 ∧ ¬ p = q) ∧ r = nI (V 89 (4 * p + q)) ∧ w = gw ad ct V)) := by
  refine ct_i (by decide) rfl rfl (Nat.le_of_ble_eq_true rfl) ?_
  intro pg en sx mx blw mth cdx hx hb hr hts hown hlk hml hK
  refine g_L (L' := [_, _, _]) rfl ?_
  refine g_iload_n hx hb d_MD_waiting_0 rfl rfl ?_
  refine g_iconst hx hb d_MD_waiting_1 k_iconst_0 ?_
  refine g_iconst hx hb d_MD_waiting_2 k_iconst_3 ?_
  refine g_callSi (nn := 3) ⟨hx, hb, hml.trans rfl, hown, hts⟩ (ct_MD_within l D ad ct had _ _ _ _ (by omega) (by omega) (by omega)) (mk_S hts t_390 t_391 t_4 t_392 rfl rfl (by decide +kernel) ⟨Nat.le_of_ble_eq_true rfl, Nat.le_of_ble_eq_true rfl⟩) (fun _ h => h) (gK_ok D ct) hK (Nat.le_of_ble_eq_true rfl) ⟨Nat.zero_le _, Nat.zero_le _⟩ rfl rfl d_MD_waiting_3 ?_
  rintro _ _ ⟨rfl, rfl⟩
  refine n_if_eq (tgt := 36) hx hb d_MD_waiting_6 (by decide) bN_lt (fun hn => ?_) (fun hn => ?_)
  · have hn := bN_0.mp hn
    refine g_iconst hx hb d_MD_waiting_36 k_iconst_m1 ?_
    exact g_iret hx hb hr hlk d_MD_waiting_37 (Or.inl ⟨by omega, rfl, rfl⟩)
  · have hn := bN_n0.mp hn
    refine g_iload_n hx hb d_MD_waiting_9 rfl rfl ?_
    refine g_iconst hx hb d_MD_waiting_10 k_iconst_0 ?_
    refine g_iconst hx hb d_MD_waiting_11 k_iconst_3 ?_
    refine g_callSi (nn := 3) ⟨hx, hb, hml.trans rfl, hown, hts⟩ (ct_MD_within l D ad ct had _ _ _ _ (by omega) (by omega) (by omega)) (mk_S hts t_390 t_391 t_4 t_392 rfl rfl (by decide +kernel) ⟨Nat.le_of_ble_eq_true rfl, Nat.le_of_ble_eq_true rfl⟩) (fun _ h => h) (gK_ok D ct) hK (Nat.le_of_ble_eq_true rfl) ⟨Nat.zero_le _, Nat.zero_le _⟩ rfl rfl d_MD_waiting_12 ?_
    rintro _ _ ⟨rfl, rfl⟩
    refine n_if_eq (tgt := 36) hx hb d_MD_waiting_15 (by decide) bN_lt (fun hq => ?_) (fun hq => ?_)
    · have hq := bN_0.mp hq
      refine g_iconst hx hb d_MD_waiting_36 k_iconst_m1 ?_
      exact g_iret hx hb hr hlk d_MD_waiting_37 (Or.inl ⟨by omega, rfl, rfl⟩)
    · have hq := bN_n0.mp hq
      refine g_iload_n hx hb d_MD_waiting_18 rfl rfl ?_
      refine g_iload_n hx hb d_MD_waiting_19 rfl rfl ?_
      refine n_icmp_eq (tgt := 36) hx hb d_MD_waiting_20 (by decide) (by omega) (by omega) (fun hpq => ?_) (fun hpq => ?_)
      · refine g_iconst hx hb d_MD_waiting_36 k_iconst_m1 ?_
        exact g_iret hx hb hr hlk d_MD_waiting_37 (Or.inl ⟨by omega, rfl, rfl⟩)
      · refine g_aload_n hx hb d_MD_waiting_23 rfl rfl ?_
        refine g_get hx hb hts (in_mw in_MD) hown hK.1 w_M rfl 20 (by decide) (hts _ (List.mem_cons_of_mem _ t_335)) rfl d_MD_waiting_24 ?_
        refine g_iconst hx hb d_MD_waiting_27 k_iconst_4 ?_
        refine g_iload_n hx hb d_MD_waiting_28 rfl rfl ?_
        refine n_imul hx hb d_MD_waiting_29 ?_
        refine g_iload_n hx hb d_MD_waiting_30 rfl rfl ?_
        refine n_iadd hx hb d_MD_waiting_31 ?_
        refine g_iald hx hb hK.1 (w_Ma (c := 89) (by decide) (by decide)) 0 rfl (show _ < 16 by omega) (by decide) rfl d_MD_waiting_32 ?_
        refine g_goto (tgt := 37) hx hb d_MD_waiting_33 (by decide) ?_
        exact g_iret hx hb hr hlk d_MD_waiting_37 (Or.inr ⟨by omega, rfl, rfl⟩)
end
section
set_option maxRecDepth 100000 in
set_option maxHeartbeats 4000000 in
theorem ct_MD_carry (l : Launch) (D : va_G) (ad : Nat → Nat) (ct : Nat → ClassId) (had : adOk ad) (V : VV) (p q : Nat) (h1 : p < 2 ^ 32) (h2 : q < 2 ^ 32) (hrb : RB V) : CTi l y_MD_carry (mw y_MD_carry c_MD_carry 8 (some .int)) { frames := 1, cells := 0, slots := 0, locals := 22 } (gK D ct) D vcl (gA ad) [.ref (ad 69), .int (nI p), .int (nI q)] (gw ad ct V) (fun r w => (¬ (p < 4 ∧ q < 4 ∧ ¬ p = q) ∧ r = -1 ∧ w = gw ad ct V) ∨ ((p < 4 ∧ q < 4 ∧ ¬ p = q) ∧ r = (rCarry V p q).1 ∧ w = gw ad ct (rCarry V p q).2)) := by
  refine ct_i (by decide) rfl rfl (Nat.le_of_ble_eq_true rfl) ?_
  intro pg en sx mx blw mth cdx hx hb hr hts hown hlk hml hK
  refine g_L (L' := [_, _, _, _, _, _, _, _]) rfl ?_
  refine g_iload_n hx hb d_MD_carry_0 rfl rfl ?_
  refine g_iconst hx hb d_MD_carry_1 k_iconst_0 ?_
  refine g_iconst hx hb d_MD_carry_2 k_iconst_3 ?_
  refine g_callSi (nn := 3) ⟨hx, hb, hml.trans rfl, hown, hts⟩ (ct_MD_within l D ad ct had _ _ _ _ (by omega) (by omega) (by omega)) (mk_S hts t_390 t_391 t_4 t_392 rfl rfl (by decide +kernel) ⟨Nat.le_of_ble_eq_true rfl, Nat.le_of_ble_eq_true rfl⟩) (fun _ h => h) (gK_ok D ct) hK (Nat.le_of_ble_eq_true rfl) ⟨Nat.zero_le _, Nat.zero_le _⟩ rfl rfl d_MD_carry_3 ?_
  rintro _ _ ⟨rfl, rfl⟩
  refine n_if_eq (tgt := 23) hx hb d_MD_carry_6 (by decide) bN_lt (fun hp => ?_) (fun hp => ?_)
  · have hp := bN_0.mp hp
    refine g_iconst hx hb d_MD_carry_23 k_iconst_m1 ?_
    exact g_iret hx hb hr hlk d_MD_carry_24 (Or.inl ⟨by omega, rfl, rfl⟩)
  · have hp := bN_n0.mp hp
    refine g_iload_n hx hb d_MD_carry_9 rfl rfl ?_
    refine g_iconst hx hb d_MD_carry_10 k_iconst_0 ?_
    refine g_iconst hx hb d_MD_carry_11 k_iconst_3 ?_
    refine g_callSi (nn := 3) ⟨hx, hb, hml.trans rfl, hown, hts⟩ (ct_MD_within l D ad ct had _ _ _ _ (by omega) (by omega) (by omega)) (mk_S hts t_390 t_391 t_4 t_392 rfl rfl (by decide +kernel) ⟨Nat.le_of_ble_eq_true rfl, Nat.le_of_ble_eq_true rfl⟩) (fun _ h => h) (gK_ok D ct) hK (Nat.le_of_ble_eq_true rfl) ⟨Nat.zero_le _, Nat.zero_le _⟩ rfl rfl d_MD_carry_12 ?_
    rintro _ _ ⟨rfl, rfl⟩
    refine n_if_eq (tgt := 23) hx hb d_MD_carry_15 (by decide) bN_lt (fun hq => ?_) (fun hq => ?_)
    · have hq := bN_0.mp hq
      refine g_iconst hx hb d_MD_carry_23 k_iconst_m1 ?_
      exact g_iret hx hb hr hlk d_MD_carry_24 (Or.inl ⟨by omega, rfl, rfl⟩)
    · have hq := bN_n0.mp hq
      refine g_iload_n hx hb d_MD_carry_18 rfl rfl ?_
      refine g_iload_n hx hb d_MD_carry_19 rfl rfl ?_
      refine n_icmp_ne (tgt := 25) hx hb d_MD_carry_20 (by decide) (by omega) (by omega) (fun hpq => ?_) (fun hpq => ?_)
      · have hn : p < 4 ∧ q < 4 ∧ ¬ p = q := ⟨by omega, by omega, hpq⟩
        have hl := hrb.2 (4 * p + q) (by omega)
        refine g_iconst hx hb d_MD_carry_25 k_iconst_4 ?_
        refine g_iload_n hx hb d_MD_carry_26 rfl rfl ?_
        refine n_imul hx hb d_MD_carry_27 ?_
        refine g_iload_n hx hb d_MD_carry_28 rfl rfl ?_
        refine n_iadd hx hb d_MD_carry_29 ?_
        refine g_istore_n (L' := [_, _, _, _, _, _, _, _]) hx hb d_MD_carry_30 rfl (Nat.le_of_ble_eq_true rfl) rfl ?_
        refine g_aload_n hx hb d_MD_carry_31 rfl rfl ?_
        refine g_get hx hb hts (in_mw in_MD) hown hK.1 w_M rfl 20 (by decide) (hts _ (List.mem_cons_of_mem _ t_335)) rfl d_MD_carry_32 ?_
        refine g_iload_n hx hb d_MD_carry_35 rfl rfl ?_
        refine g_iald hx hb hK.1 (w_Ma (c := 89) (by decide) (by decide)) 0 rfl (show _ < 16 by omega) (by decide) rfl d_MD_carry_36 ?_
        refine n_if_ne (tgt := 42) hx hb d_MD_carry_37 (by decide) (by omega) (fun hl0 => ?_) (fun hl0 => ?_)
        · have hw := hl.2 (by omega)
          refine g_aload_n hx hb d_MD_carry_42 rfl rfl ?_
          refine g_get hx hb hts (in_mw in_MD) hown hK.1 w_M rfl 19 (by decide) (hts _ (List.mem_cons_of_mem _ t_334)) rfl d_MD_carry_43 ?_
          refine g_bipush hx hb d_MD_carry_46 k_bipush_80 ?_
          refine g_iload_n hx hb d_MD_carry_48 rfl rfl ?_
          refine n_imul hx hb d_MD_carry_49 ?_
          refine g_iald hx hb hK.1 (w_Ma (c := 88) (by decide) (by decide)) 0 rfl (show _ < 1280 by omega) (by decide) rfl d_MD_carry_50 ?_
          refine g_istore (L' := [_, _, _, _, _, _, _, _]) hx hb d_MD_carry_51 (Nat.le_of_ble_eq_true rfl) rfl ?_
          refine g_aload_n hx hb d_MD_carry_53 rfl rfl ?_
          refine g_get hx hb hts (in_mw in_MD) hown hK.1 w_M rfl 20 (by decide) (hts _ (List.mem_cons_of_mem _ t_335)) rfl d_MD_carry_54 ?_
          refine g_iload_n hx hb d_MD_carry_57 rfl rfl ?_
          refine g_dup2 hx hb d_MD_carry_58 rfl rfl ?_
          refine g_iald hx hb hK.1 (w_Ma (c := 89) (by decide) (by decide)) 0 rfl (show _ < 16 by omega) (by decide) rfl d_MD_carry_59 ?_
          refine g_iconst hx hb d_MD_carry_60 k_iconst_1 ?_
          refine n_isub hx hb d_MD_carry_61 (by omega) ?_
          refine g_iast hx hb hK.1 (gw_D had) (w_Ma (c := 89) (by decide) (by decide)) 0 rfl (show _ < 16 by omega) (by decide) d_MD_carry_62 (s_Ma (c := 89) (by decide) (by decide) _ _) ?_
          refine g_iconst hx hb d_MD_carry_63 k_iconst_0 ?_
          refine g_istore (L' := [_, _, _, _, _, _, _, _]) hx hb d_MD_carry_64 (Nat.le_of_ble_eq_true rfl) rfl ?_
          refine g_loop (V 89 (4 * p + q) - 1) (fun k => gw ad ct (rsh (pt V 89 (4 * p + q) (V 89 (4 * p + q) - 1)) (4 * p + q) k)) (fun k => [some (.ref (ad 69)), some (.int (nI p)), some (.int (nI q)), some (.int (nI ((4 * p) + q))), some (.int (nI (V 88 (80 * ((4 * p) + q))))), some (.int (nI k)), none, none]) (fun k => True) 0 (by omega) trivial rfl rfl ?_
          intro k hq0_k hqE_k hI_k ih_k
          try dsimp only
          refine g_iload hx hb d_MD_carry_66 rfl ?_
          refine g_aload_n hx hb d_MD_carry_68 rfl rfl ?_
          refine g_get hx hb hts (in_mw in_MD) hown hK.1 w_M rfl 20 (by decide) (hts _ (List.mem_cons_of_mem _ t_335)) rfl d_MD_carry_69 ?_
          refine g_iload_n hx hb d_MD_carry_72 rfl rfl ?_
          refine g_iald hx hb hK.1 (w_Ma (c := 89) (by decide) (by decide)) 0 rfl (show _ < 16 by omega) (by decide) rfl d_MD_carry_73 ?_
          refine g_val (show nI _ = nI (V 89 (4 * p + q) - 1) from congrArg nI (by rw [rsh_ne (by decide), pt_eq rfl rfl])) ?_
          refine n_icmp_ge (tgt := 109) hx hb d_MD_carry_74 (by decide) (by omega) (by omega) (fun hk => ?_) (fun hk => ?_)
          · have hk : k = V 89 (4 * p + q) - 1 := by omega
            subst hk
            refine g_iload hx hb d_MD_carry_109 rfl ?_
            refine g_sipush hx hb d_MD_carry_111 k_sipush_256 ?_
            refine n_icmp_ge (tgt := 133) hx hb d_MD_carry_114 (by decide) (by omega) (by omega) (fun h256 => ?_) (fun h256 => ?_)
            · refine g_iload hx hb d_MD_carry_133 rfl ?_
              refine g_sipush hx hb d_MD_carry_135 k_sipush_256 ?_
              refine n_isub hx hb d_MD_carry_138 (by omega) ?_
              refine g_istore (L' := [_, _, _, _, _, _, _, _]) hx hb d_MD_carry_139 (Nat.le_of_ble_eq_true rfl) rfl ?_
              refine g_aload_n hx hb d_MD_carry_141 rfl rfl ?_
              refine g_get hx hb hts (in_mw in_MD) hown hK.1 w_M rfl 18 (by decide) (hts _ (List.mem_cons_of_mem _ t_333)) rfl d_MD_carry_142 ?_
              refine g_bipush hx hb d_MD_carry_145 k_bipush_64 ?_
              refine g_iload_n hx hb d_MD_carry_147 rfl rfl ?_
              refine n_imul hx hb d_MD_carry_148 ?_
              refine g_iload hx hb d_MD_carry_149 rfl ?_
              refine n_iadd hx hb d_MD_carry_151 ?_
              refine g_iconst hx hb d_MD_carry_152 k_iconst_1 ?_
              refine g_zast hx hb hK.1 (gw_D had) (w_Ma (c := 87) (by decide) (by decide)) 1 rfl (show _ < 256 by omega) (by decide) d_MD_carry_153 (by decide +kernel) (s_Ma (c := 87) (by decide) (by decide) _ _) ?_
              refine g_aload_n hx hb d_MD_carry_154 rfl rfl ?_
              refine g_get hx hb hts (in_mw in_MD) hown hK.1 w_M rfl 16 (by decide) (hts _ (List.mem_cons_of_mem _ t_331)) rfl d_MD_carry_155 ?_
              refine g_iload hx hb d_MD_carry_158 rfl ?_
              refine g_iald hx hb hK.1 (w_Ma (c := 85) (by decide) (by decide)) 0 rfl (show _ < 64 by omega) (by decide) rfl d_MD_carry_160 ?_
              refine g_val (show nI _ = nI (V 85 (V 88 (80 * (4 * p + q)) - 256)) from congrArg nI (by rw [pt_ne (by decide), rsh_ne (by decide), pt_ne (by decide)])) ?_
              refine g_if_le (tgt := 235) hx hb d_MD_carry_161 (by decide) (fun hsv => ?_) (fun hsv => ?_)
              · have hsv := (q_le0 (by have := hrb.1.sv (V 88 (80 * (4 * p + q)) - 256); omega)).mp hsv
                refine g_iconst hx hb d_MD_carry_235 k_iconst_2 ?_
                have hS : rCarry V p q = (2, pt (rsh (pt V 89 (4 * p + q) (V 89 (4 * p + q) - 1)) (4 * p + q) (V 89 (4 * p + q) - 1)) 87 (64 * q + (V 88 (80 * (4 * p + q)) - 256)) 1) := by unfold rCarry; rw [if_neg hl0, if_neg (by omega), if_pos hsv]
                exact g_iret hx hb hr hlk d_MD_carry_236 (Or.inr ⟨hn, by rw [hS] <;> first | exact n0_eq | exact n1_eq | exact n2_eq, by rw [hS]⟩)
              · have hsv : ¬ V 85 (V 88 (80 * (4 * p + q)) - 256) = 0 := fun z => hsv ((q_le0 (by have := hrb.1.sv (V 88 (80 * (4 * p + q)) - 256); omega)).mpr z)
                obtain ⟨B, hB⟩ : ∃ B : VV, B = pt (rsh (pt V 89 (4 * p + q) (V 89 (4 * p + q) - 1)) (4 * p + q) (V 89 (4 * p + q) - 1)) 87 (64 * q + (V 88 (80 * (4 * p + q)) - 256)) 1 := ⟨_, rfl⟩
                refine g_w (congrArg (gw ad ct) hB.symm) ?_
                have b85 : ∀ k, B 85 k = V 85 k := fun k => by rw [hB, pt_ne (by decide), rsh_ne (by decide), pt_ne (by decide)]
                have b86 : ∀ k, B 86 k = V 86 k := fun k => by rw [hB, pt_ne (by decide), rsh_ne (by decide), pt_ne (by decide)]
                refine g_iconst hx hb d_MD_carry_164 k_iconst_0 ?_
                refine g_istore (L' := [_, _, _, _, _, _, _, _]) hx hb d_MD_carry_165 (Nat.le_of_ble_eq_true rfl) rfl ?_
                refine g_loop 4 (fun r => gw ad ct (rkl B q (V 88 (80 * (4 * p + q)) - 256) r)) (fun r => [some (.ref (ad 69)), some (.int (nI p)), some (.int (nI q)), some (.int (nI ((4 * p) + q))), some (.int (nI (V 88 (80 * ((4 * p) + q))))), some (.int (nI ((V 88 (80 * ((4 * p) + q))) - 256))), some (.int (nI r)), none]) (fun r => True) 0 (by omega) trivial rfl rfl ?_
                intro r hq0_r hqE_r hI_r ih_r
                try dsimp only
                refine g_iload hx hb d_MD_carry_167 rfl ?_
                refine g_iconst hx hb d_MD_carry_169 k_iconst_4 ?_
                refine n_icmp_ge (tgt := 235) hx hb d_MD_carry_170 (by decide) (by omega) (by omega) (fun hr4 => ?_) (fun hr4 => ?_)
                · have hr4 : r = 4 := by omega
                  subst hr4
                  refine g_iconst hx hb d_MD_carry_235 k_iconst_2 ?_
                  have hS : rCarry V p q = (2, rkl B q (V 88 (80 * (4 * p + q)) - 256) 4) := by unfold rCarry; rw [if_neg hl0, if_neg (by omega), if_neg hsv, hB]
                  exact g_iret hx hb hr hlk d_MD_carry_236 (Or.inr ⟨hn, by rw [hS] <;> first | exact n0_eq | exact n1_eq | exact n2_eq, by rw [hS]⟩)
                · have hc4 : B 86 (4 * (V 88 (80 * (4 * p + q)) - 256) + r) ≤ 4 := by rw [b86]; exact hrb.1.cu _
                  have hs15 : B 85 (V 88 (80 * (4 * p + q)) - 256) ≤ 15 := by rw [b85]; exact hrb.1.sv _
                  refine g_iconst hx hb d_MD_carry_173 k_iconst_0 ?_
                  refine g_istore (L' := [_, _, _, _, _, _, _, _]) hx hb d_MD_carry_174 (Nat.le_of_ble_eq_true rfl) rfl ?_
                  refine g_loop (B 86 (4 * (V 88 (80 * (4 * p + q)) - 256) + r)) (fun n => gw ad ct (rkn (rkl B q (V 88 (80 * (4 * p + q)) - 256) r) (256 * q + 16 * B 85 (V 88 (80 * (4 * p + q)) - 256) + 4 * r) n)) (fun n => [some (.ref (ad 69)), some (.int (nI p)), some (.int (nI q)), some (.int (nI ((4 * p) + q))), some (.int (nI (V 88 (80 * ((4 * p) + q))))), some (.int (nI ((V 88 (80 * ((4 * p) + q))) - 256))), some (.int (nI r)), some (.int (nI n))]) (fun n => True) 0 (Nat.zero_le _) trivial rfl rfl ?_
                  intro n hq0_n hqE_n hI_n ih_n
                  try dsimp only
                  refine g_iload hx hb d_MD_carry_176 rfl ?_
                  refine g_aload_n hx hb d_MD_carry_178 rfl rfl ?_
                  refine g_get hx hb hts (in_mw in_MD) hown hK.1 w_M rfl 17 (by decide) (hts _ (List.mem_cons_of_mem _ t_332)) rfl d_MD_carry_179 ?_
                  refine g_iconst hx hb d_MD_carry_182 k_iconst_4 ?_
                  refine g_iload hx hb d_MD_carry_183 rfl ?_
                  refine n_imul hx hb d_MD_carry_185 ?_
                  refine g_iload hx hb d_MD_carry_186 rfl ?_
                  refine n_iadd hx hb d_MD_carry_188 ?_
                  refine g_iald hx hb hK.1 (w_Ma (c := 86) (by decide) (by decide)) 0 rfl (show _ < 256 by omega) (by decide) rfl d_MD_carry_189 ?_
                  refine g_val (show nI _ = nI (B 86 (4 * (V 88 (80 * (4 * p + q)) - 256) + r)) from congrArg nI (by rw [rkn_ne (by decide), rkl_ne (by decide)])) ?_
                  refine n_icmp_ge (tgt := 229) hx hb d_MD_carry_190 (by decide) (by omega) (by omega) (fun hn4 => ?_) (fun hn4 => ?_)
                  · have hn2 : n = B 86 (4 * (V 88 (80 * (4 * p + q)) - 256) + r) := by omega
                    subst hn2
                    refine n_iinc (L' := [_, _, _, _, _, _, _, _]) hx hb d_MD_carry_229 rfl rfl ?_
                    refine g_goto (tgt := 167) hx hb d_MD_carry_232 (by decide) ?_
                    refine g_sub (L' := [_, _, _, _, _, _, _, none]) ⟨Or.inr rfl, Or.inr rfl, Or.inr rfl, Or.inr rfl, Or.inr rfl, Or.inr rfl, Or.inr rfl, Or.inl rfl, trivial⟩ ?_
                    exact ih_r (by omega) trivial
                  · refine g_aload_n hx hb d_MD_carry_193 rfl rfl ?_
                    refine g_get hx hb hts (in_mw in_MD) hown hK.1 w_M rfl 15 (by decide) (hts _ (List.mem_cons_of_mem _ t_330)) rfl d_MD_carry_194 ?_
                    refine g_sipush hx hb d_MD_carry_197 k_sipush_256 ?_
                    refine g_iload_n hx hb d_MD_carry_200 rfl rfl ?_
                    refine n_imul hx hb d_MD_carry_201 ?_
                    refine g_bipush hx hb d_MD_carry_202 k_bipush_16 ?_
                    refine g_aload_n hx hb d_MD_carry_204 rfl rfl ?_
                    refine g_get hx hb hts (in_mw in_MD) hown hK.1 w_M rfl 16 (by decide) (hts _ (List.mem_cons_of_mem _ t_331)) rfl d_MD_carry_205 ?_
                    refine g_iload hx hb d_MD_carry_208 rfl ?_
                    refine g_iald hx hb hK.1 (w_Ma (c := 85) (by decide) (by decide)) 0 rfl (show _ < 64 by omega) (by decide) rfl d_MD_carry_210 ?_
                    refine g_val (show nI _ = nI (B 85 (V 88 (80 * (4 * p + q)) - 256)) from congrArg nI (by rw [rkn_ne (by decide), rkl_ne (by decide)])) ?_
                    refine n_imul hx hb d_MD_carry_211 ?_
                    refine n_iadd hx hb d_MD_carry_212 ?_
                    refine g_iconst hx hb d_MD_carry_213 k_iconst_4 ?_
                    refine g_iload hx hb d_MD_carry_214 rfl ?_
                    refine n_imul hx hb d_MD_carry_216 ?_
                    refine n_iadd hx hb d_MD_carry_217 ?_
                    refine g_iload hx hb d_MD_carry_218 rfl ?_
                    refine n_iadd hx hb d_MD_carry_220 ?_
                    refine g_iconst hx hb d_MD_carry_221 k_iconst_1 ?_
                    refine g_zast hx hb hK.1 (gw_D had) (w_Ma (c := 84) (by decide) (by decide)) 1 rfl (show _ < 1024 by omega) (by decide) d_MD_carry_222 (by decide +kernel) (s_Ma (c := 84) (by decide) (by decide) _ _) ?_
                    refine n_iinc (L' := [_, _, _, _, _, _, _, _]) hx hb d_MD_carry_223 rfl rfl ?_
                    refine g_goto (tgt := 176) hx hb d_MD_carry_226 (by decide) ?_
                    exact ih_n (by omega) trivial
            · refine g_aload_n hx hb d_MD_carry_117 rfl rfl ?_
              refine g_get hx hb hts (in_mw in_MD) hown hK.1 w_M rfl 15 (by decide) (hts _ (List.mem_cons_of_mem _ t_330)) rfl d_MD_carry_118 ?_
              refine g_sipush hx hb d_MD_carry_121 k_sipush_256 ?_
              refine g_iload_n hx hb d_MD_carry_124 rfl rfl ?_
              refine n_imul hx hb d_MD_carry_125 ?_
              refine g_iload hx hb d_MD_carry_126 rfl ?_
              refine n_iadd hx hb d_MD_carry_128 ?_
              refine g_iconst hx hb d_MD_carry_129 k_iconst_1 ?_
              refine g_zast hx hb hK.1 (gw_D had) (w_Ma (c := 84) (by decide) (by decide)) 1 rfl (show _ < 1024 by omega) (by decide) d_MD_carry_130 (by decide +kernel) (s_Ma (c := 84) (by decide) (by decide) _ _) ?_
              refine g_iconst hx hb d_MD_carry_131 k_iconst_1 ?_
              have hS : rCarry V p q = (1, pt (rsh (pt V 89 (4 * p + q) (V 89 (4 * p + q) - 1)) (4 * p + q) (V 89 (4 * p + q) - 1)) 84 (256 * q + V 88 (80 * (4 * p + q))) 1) := by unfold rCarry; rw [if_neg hl0, if_pos h256]
              exact g_iret hx hb hr hlk d_MD_carry_132 (Or.inr ⟨hn, by rw [hS] <;> first | exact n0_eq | exact n1_eq | exact n2_eq, by rw [hS]⟩)
          · refine g_aload_n hx hb d_MD_carry_77 rfl rfl ?_
            refine g_get hx hb hts (in_mw in_MD) hown hK.1 w_M rfl 19 (by decide) (hts _ (List.mem_cons_of_mem _ t_334)) rfl d_MD_carry_78 ?_
            refine g_bipush hx hb d_MD_carry_81 k_bipush_80 ?_
            refine g_iload_n hx hb d_MD_carry_83 rfl rfl ?_
            refine n_imul hx hb d_MD_carry_84 ?_
            refine g_iload hx hb d_MD_carry_85 rfl ?_
            refine n_iadd hx hb d_MD_carry_87 ?_
            refine g_aload_n hx hb d_MD_carry_88 rfl rfl ?_
            refine g_get hx hb hts (in_mw in_MD) hown hK.1 w_M rfl 19 (by decide) (hts _ (List.mem_cons_of_mem _ t_334)) rfl d_MD_carry_89 ?_
            refine g_bipush hx hb d_MD_carry_92 k_bipush_80 ?_
            refine g_iload_n hx hb d_MD_carry_94 rfl rfl ?_
            refine n_imul hx hb d_MD_carry_95 ?_
            refine g_iload hx hb d_MD_carry_96 rfl ?_
            refine n_iadd hx hb d_MD_carry_98 ?_
            refine g_iconst hx hb d_MD_carry_99 k_iconst_1 ?_
            refine n_iadd hx hb d_MD_carry_100 ?_
            refine g_iald hx hb hK.1 (w_Ma (c := 88) (by decide) (by decide)) 0 rfl (show _ < 1280 by omega) (by decide) rfl d_MD_carry_101 ?_
            refine g_iast hx hb hK.1 (gw_D had) (w_Ma (c := 88) (by decide) (by decide)) 0 rfl (show _ < 1280 by omega) (by decide) d_MD_carry_102 (s_Ma (c := 88) (by decide) (by decide) _ _) ?_
            refine n_iinc (L' := [_, _, _, _, _, _, _, _]) hx hb d_MD_carry_103 rfl rfl ?_
            refine g_goto (tgt := 66) hx hb d_MD_carry_106 (by decide) ?_
            exact ih_k (by omega) trivial
        · refine g_iconst hx hb d_MD_carry_40 k_iconst_0 ?_
          have hS : rCarry V p q = (0, V) := by unfold rCarry; rw [if_pos hl0]
          exact g_iret hx hb hr hlk d_MD_carry_41 (Or.inr ⟨hn, by rw [hS] <;> first | exact n0_eq | exact n1_eq | exact n2_eq, by rw [hS]⟩)
      · refine g_iconst hx hb d_MD_carry_23 k_iconst_m1 ?_
        exact g_iret hx hb hr hlk d_MD_carry_24 (Or.inl ⟨by omega, rfl, rfl⟩)
set_option maxRecDepth 100000 in
set_option maxHeartbeats 4000000 in
theorem ct_MD_deliverable (l : Launch) (D : va_G) (ad : Nat → Nat) (ct : Nat → ClassId) (had : adOk ad) (V : VV) (p q : Nat) (hp : p < 4) (hq : q < 4) (hb0 : BD V) (h90 : ∀ j, j < 4 → V 90 j ≤ 4) : CTi l y_MD_deliverable (mw y_MD_deliverable c_MD_deliverable 6 (some .boolean)) { frames := 0, cells := 0, slots := 0, locals := 0 } (gK D ct) D vcl (gA ad) [.ref (ad 69), .int (nI p), .int (nI q)] (gw ad ct V) (fun r w => r = nI (bC (rdl V p q)) ∧ w = gw ad ct V) := by
  refine ct_i (by decide) rfl rfl (Nat.le_of_ble_eq_true rfl) ?_
  intro pg en sx mx blw mth cdx hx hb hr hts hown hlk hml hK
  refine g_L (L' := [_, _, _, _, _, _]) rfl ?_
  have hd4 := hb0.d (4 * p + q)
  have hl4 := h90 q hq
  have hpa := hb0.p p hp
  have hv15 := hb0.v
  refine g_aload_n hx hb d_MD_deliverable_0 rfl rfl ?_
  refine g_get hx hb hts (in_mw in_MD) hown hK.1 w_M rfl 8 (by decide) (hts _ (List.mem_cons_of_mem _ t_323)) rfl d_MD_deliverable_1 ?_
  refine g_iconst hx hb d_MD_deliverable_4 k_iconst_4 ?_
  refine g_iload_n hx hb d_MD_deliverable_5 rfl rfl ?_
  refine n_imul hx hb d_MD_deliverable_6 ?_
  refine g_iload_n hx hb d_MD_deliverable_7 rfl rfl ?_
  refine n_iadd hx hb d_MD_deliverable_8 ?_
  refine g_iald hx hb hK.1 (w_Ma (c := 78) (by decide) (by decide)) 0 rfl (show _ < 16 by omega) (by decide) rfl d_MD_deliverable_9 ?_
  refine g_istore_n (L' := [_, _, _, _, _, _]) hx hb d_MD_deliverable_10 rfl (Nat.le_of_ble_eq_true rfl) rfl ?_
  refine g_iload_n hx hb d_MD_deliverable_11 rfl rfl ?_
  refine g_aload_n hx hb d_MD_deliverable_12 rfl rfl ?_
  refine g_get hx hb hts (in_mw in_MD) hown hK.1 w_M rfl 21 (by decide) (hts _ (List.mem_cons_of_mem _ t_336)) rfl d_MD_deliverable_13 ?_
  refine g_iload_n hx hb d_MD_deliverable_16 rfl rfl ?_
  refine g_iald hx hb hK.1 (w_Ma (c := 90) (by decide) (by decide)) 0 rfl (show _ < 4 by omega) (by decide) rfl d_MD_deliverable_17 ?_
  refine n_icmp_lt (tgt := 23) hx hb d_MD_deliverable_18 (by decide) (by omega) (by omega) (fun hlt => ?_) (fun hlt => ?_)
  · have hk1 := hb0.kn (256 * p + (16 * V 70 p + 4 * q + V 78 (4 * p + q)))
    refine g_bipush hx hb d_MD_deliverable_23 k_bipush_16 ?_
    refine g_aload_n hx hb d_MD_deliverable_25 rfl rfl ?_
    refine g_get hx hb hts (in_mw in_MD) hown hK.1 w_M rfl 0 (by decide) (hts _ (List.mem_cons_of_mem _ t_315)) rfl d_MD_deliverable_26 ?_
    refine g_iload_n hx hb d_MD_deliverable_29 rfl rfl ?_
    refine g_iald hx hb hK.1 (w_Ma (c := 70) (by decide) (by decide)) 0 rfl (show _ < 4 by omega) (by decide) rfl d_MD_deliverable_30 ?_
    refine n_imul hx hb d_MD_deliverable_31 ?_
    refine g_iconst hx hb d_MD_deliverable_32 k_iconst_4 ?_
    refine g_iload_n hx hb d_MD_deliverable_33 rfl rfl ?_
    refine n_imul hx hb d_MD_deliverable_34 ?_
    refine n_iadd hx hb d_MD_deliverable_35 ?_
    refine g_iload_n hx hb d_MD_deliverable_36 rfl rfl ?_
    refine n_iadd hx hb d_MD_deliverable_37 ?_
    refine g_istore (L' := [_, _, _, _, _, _]) hx hb d_MD_deliverable_38 (Nat.le_of_ble_eq_true rfl) rfl ?_
    refine g_aload_n hx hb d_MD_deliverable_40 rfl rfl ?_
    refine g_get hx hb hts (in_mw in_MD) hown hK.1 w_M rfl 15 (by decide) (hts _ (List.mem_cons_of_mem _ t_330)) rfl d_MD_deliverable_41 ?_
    refine g_sipush hx hb d_MD_deliverable_44 k_sipush_256 ?_
    refine g_iload_n hx hb d_MD_deliverable_47 rfl rfl ?_
    refine n_imul hx hb d_MD_deliverable_48 ?_
    refine g_iload hx hb d_MD_deliverable_49 rfl ?_
    refine n_iadd hx hb d_MD_deliverable_51 ?_
    refine g_zald hx hb hK.1 (w_Ma (c := 84) (by decide) (by decide)) 1 rfl (show _ < 1024 by omega) (by decide) rfl d_MD_deliverable_52 ?_
    refine n_if_ne (tgt := 58) hx hb d_MD_deliverable_53 (by decide) (by omega) (fun hkn => ?_) (fun hkn => ?_)
    · refine g_iconst hx hb d_MD_deliverable_58 k_iconst_0 ?_
      refine g_istore (L' := [_, _, _, _, _, _]) hx hb d_MD_deliverable_59 (Nat.le_of_ble_eq_true rfl) rfl ?_
      refine g_loop 4 (fun j => gw ad ct V) (fun j => [some (.ref (ad 69)), some (.int (nI p)), some (.int (nI q)), some (.int (nI (V 78 ((4 * p) + q)))), some (.int (nI (((16 * (V 70 p)) + (4 * q)) + (V 78 ((4 * p) + q))))), some (.int (nI j))]) (fun j => ∀ i, i < j → ¬ i = q → V 83 (4 * (16 * V 70 p + 4 * q + V 78 (4 * p + q)) + i) ≤ V 78 (4 * p + i)) 0 (by omega) (fun i hi => absurd hi (Nat.not_lt_zero i)) rfl rfl ?_
      intro j hq0_j hqE_j hI_j ih_j
      try dsimp only
      refine g_iload hx hb d_MD_deliverable_61 rfl ?_
      refine g_iconst hx hb d_MD_deliverable_63 k_iconst_4 ?_
      refine n_icmp_ge (tgt := 107) hx hb d_MD_deliverable_64 (by decide) (by omega) (by omega) (fun hr4 => ?_) (fun hr4 => ?_)
      · refine g_iconst hx hb d_MD_deliverable_107 k_iconst_1 ?_
        exact g_zret hx hb hr hlk (by decide +kernel) d_MD_deliverable_108 (⟨by rw [bC_t (show rdl V p q from ⟨hlt, hkn, fun i hi hiq => hI_j i (by omega) hiq⟩)], rfl⟩)
      · have x1 := hb0.d (4 * p + j)
        have x2 := hb0.vc (4 * (16 * V 70 p + 4 * q + V 78 (4 * p + q)) + j)
        refine g_iload hx hb d_MD_deliverable_67 rfl ?_
        refine g_iload_n hx hb d_MD_deliverable_69 rfl rfl ?_
        refine n_icmp_eq (tgt := 101) hx hb d_MD_deliverable_70 (by decide) (by omega) (by omega) (fun hrq => ?_) (fun hrq => ?_)
        · refine n_iinc (L' := [_, _, _, _, _, _]) hx hb d_MD_deliverable_101 rfl rfl ?_
          refine g_goto (tgt := 61) hx hb d_MD_deliverable_104 (by decide) ?_
          refine ih_j (by omega) (fun i hi hiq => ?_)
          rcases Nat.lt_succ_iff_lt_or_eq.mp hi with z | z
          · exact hI_j i z hiq
          · subst z
            first | exact absurd hrq hiq | exact hle
        · refine g_aload_n hx hb d_MD_deliverable_73 rfl rfl ?_
          refine g_get hx hb hts (in_mw in_MD) hown hK.1 w_M rfl 8 (by decide) (hts _ (List.mem_cons_of_mem _ t_323)) rfl d_MD_deliverable_74 ?_
          refine g_iconst hx hb d_MD_deliverable_77 k_iconst_4 ?_
          refine g_iload_n hx hb d_MD_deliverable_78 rfl rfl ?_
          refine n_imul hx hb d_MD_deliverable_79 ?_
          refine g_iload hx hb d_MD_deliverable_80 rfl ?_
          refine n_iadd hx hb d_MD_deliverable_82 ?_
          refine g_iald hx hb hK.1 (w_Ma (c := 78) (by decide) (by decide)) 0 rfl (show _ < 16 by omega) (by decide) rfl d_MD_deliverable_83 ?_
          refine g_aload_n hx hb d_MD_deliverable_84 rfl rfl ?_
          refine g_get hx hb hts (in_mw in_MD) hown hK.1 w_M rfl 14 (by decide) (hts _ (List.mem_cons_of_mem _ t_329)) rfl d_MD_deliverable_85 ?_
          refine g_iconst hx hb d_MD_deliverable_88 k_iconst_4 ?_
          refine g_iload hx hb d_MD_deliverable_89 rfl ?_
          refine n_imul hx hb d_MD_deliverable_91 ?_
          refine g_iload hx hb d_MD_deliverable_92 rfl ?_
          refine n_iadd hx hb d_MD_deliverable_94 ?_
          refine g_iald hx hb hK.1 (w_Ma (c := 83) (by decide) (by decide)) 0 rfl (show _ < 1024 by omega) (by decide) rfl d_MD_deliverable_95 ?_
          refine n_icmp_ge (tgt := 101) hx hb d_MD_deliverable_96 (by decide) (by omega) (by omega) (fun hle => ?_) (fun hle => ?_)
          · refine n_iinc (L' := [_, _, _, _, _, _]) hx hb d_MD_deliverable_101 rfl rfl ?_
            refine g_goto (tgt := 61) hx hb d_MD_deliverable_104 (by decide) ?_
            refine ih_j (by omega) (fun i hi hiq => ?_)
            rcases Nat.lt_succ_iff_lt_or_eq.mp hi with z | z
            · exact hI_j i z hiq
            · subst z
              first | exact absurd hrq hiq | exact hle
          · refine g_iconst hx hb d_MD_deliverable_99 k_iconst_0 ?_
            exact g_zret hx hb hr hlk (by decide +kernel) d_MD_deliverable_100 (⟨by rw [bC_f (show ¬ rdl V p q from fun z => by have := z.2.2 j (by omega) hrq; omega)], rfl⟩)
    · refine g_iconst hx hb d_MD_deliverable_56 k_iconst_0 ?_
      exact g_zret hx hb hr hlk (by decide +kernel) d_MD_deliverable_57 (⟨by rw [bC_f (show ¬ rdl V p q from fun z => z.2.1 hkn)], rfl⟩)
  · refine g_iconst hx hb d_MD_deliverable_21 k_iconst_0 ?_
    exact g_zret hx hb hr hlk (by decide +kernel) d_MD_deliverable_22 (⟨by rw [bC_f (show ¬ rdl V p q from fun z => by have := z.1; omega)], rfl⟩)
set_option maxRecDepth 100000 in
set_option maxHeartbeats 4000000 in
theorem ct_MD_limits (l : Launch) (D : va_G) (ad : Nat → Nat) (ct : Nat → ClassId) (had : adOk ad) (V : VV) (n : Nat) (hn : n < 4) (hb0 : BD V) : CTi l y_MD_limits (mw y_MD_limits c_MD_limits 7 (some .int)) { frames := 1, cells := 0, slots := 0, locals := 21 } (gK D ct) D vcl (gA ad) [.ref (ad 69), .int (nI n)] (gw ad ct V) (fun r w => ∃ h Z, rlim V n h Z ∧ r = nI h ∧ w = gw ad ct Z) := by
  refine ct_i (by decide) rfl rfl (Nat.le_of_ble_eq_true rfl) ?_
  intro pg en sx mx blw mth cdx hx hb hr hts hown hlk hml hK
  refine g_L (L' := [_, _, _, _, _, _, _]) rfl ?_
  have hpa := hb0.p n hn
  have hv15 := hb0.v
  refine g_aload_n hx hb d_MD_limits_0 rfl rfl ?_
  refine g_iconst hx hb d_MD_limits_1 k_iconst_0 ?_
  refine g_put (ty := .int) hx hb hts (in_mw in_MD) ty_MD tyo_MD nm_MD hown hK.1 (gw_D had) w_M rfl 22 (by decide) (hts _ (List.mem_cons_of_mem _ t_337)) rfl (by decide +kernel) rfl rfl (Nat.le_of_ble_eq_true rfl) d_MD_limits_2 (s_M22 _) ?_
  refine g_iconst hx hb d_MD_limits_5 k_iconst_0 ?_
  refine g_istore_n (L' := [_, _, _, _, _, _, _]) hx hb d_MD_limits_6 rfl (Nat.le_of_ble_eq_true rfl) rfl ?_
  refine g_loop 4 (fun r => gw ad ct (rl0 (pt V 69 22 0) (if V 74 n = 0 then 4 else 0) r)) (fun r => [some (.ref (ad 69)), some (.int (nI n)), some (.int (nI r)), none, none, none, none]) (fun r => True) 0 (by omega) trivial rfl rfl ?_
  intro r hq0_r hqE_r hI_r ih_r
  try dsimp only
  refine g_iload_n hx hb d_MD_limits_7 rfl rfl ?_
  refine g_iconst hx hb d_MD_limits_8 k_iconst_4 ?_
  refine n_icmp_ge (tgt := 38) hx hb d_MD_limits_9 (by decide) (by omega) (by omega) (fun hc1 => ?_) (fun hc1 => ?_)
  · have hr4 : r = 4 := by omega
    subst hr4
    refine g_aload_n hx hb d_MD_limits_38 rfl rfl ?_
    refine g_get hx hb hts (in_mw in_MD) hown hK.1 w_M rfl 4 (by decide) (hts _ (List.mem_cons_of_mem _ t_319)) rfl d_MD_limits_39 ?_
    refine g_iload_n hx hb d_MD_limits_42 rfl rfl ?_
    refine g_zald hx hb hK.1 (w_Ma (c := 74) (by decide) (by decide)) 1 rfl (show _ < 4 by omega) (by decide) rfl d_MD_limits_43 ?_
    refine g_val (show nI _ = nI (V 74 n) from congrArg nI (by rw [rl0_ne (by decide), pt_ne (by decide)])) ?_
    refine n_if_ne (tgt := 49) hx hb d_MD_limits_44 (by decide) (by omega) (fun hb2 => ?_) (fun hb2 => ?_)
    · refine g_aload_n hx hb d_MD_limits_49 rfl rfl ?_
      refine g_get hx hb hts (in_mw in_MD) hown hK.1 w_M rfl 5 (by decide) (hts _ (List.mem_cons_of_mem _ t_320)) rfl d_MD_limits_50 ?_
      refine g_iload_n hx hb d_MD_limits_53 rfl rfl ?_
      refine g_iald hx hb hK.1 (w_Ma (c := 75) (by decide) (by decide)) 0 rfl (show _ < 4 by omega) (by decide) rfl d_MD_limits_54 ?_
      refine g_val (show nI _ = nI (V 75 n) from congrArg nI (by rw [rl0_ne (by decide), pt_ne (by decide)])) ?_
      refine g_istore_n (L' := [_, _, _, _, _, _, _]) hx hb d_MD_limits_55 rfl (Nat.le_of_ble_eq_true rfl) rfl ?_
      refine g_iload_n hx hb d_MD_limits_56 rfl rfl ?_
      refine n_if_ne (tgt := 62) hx hb d_MD_limits_57 (by decide) (by omega) (fun hv0 => ?_) (fun hv0 => ?_)
      · obtain ⟨Z, hZ⟩ : ∃ Z : VV, Z = rl0 (pt V 69 22 0) 0 4 := ⟨_, rfl⟩
        refine g_w (congrArg (gw ad ct) (show _ = Z by rw [hZ, if_neg hb2])) ?_
        have zc : ∀ c k, c ≠ 90 → ¬ (c = 69 ∧ k = 22) → Z c k = V c k := fun c k z1 z2 => by
          rw [hZ, rl0_ne z1]
          exact (rsm.rfl'.put69 0) c k z1 z2
        have hbo : (V 80 (V 75 n) &&& rps V n) < 16 := Nat.lt_of_le_of_lt Nat.and_le_left (hb0.m _)
        refine g_aload_n hx hb d_MD_limits_62 rfl rfl ?_
        refine g_get hx hb hts (in_mw in_MD) hown hK.1 w_M rfl 11 (by decide) (hts _ (List.mem_cons_of_mem _ t_326)) rfl d_MD_limits_63 ?_
        refine g_iload_n hx hb d_MD_limits_66 rfl rfl ?_
        refine g_iald hx hb hK.1 (w_Ma (c := 80) (by decide) (by decide)) 0 rfl (show _ < 16 by omega) (by decide) rfl d_MD_limits_67 ?_
        refine g_val (show nI _ = nI (V 80 (V 75 n)) from congrArg nI (zc 80 _ (by decide) (by omega))) ?_
        refine g_aload_n hx hb d_MD_limits_68 rfl rfl ?_
        refine g_iload_n hx hb d_MD_limits_69 rfl rfl ?_
        refine g_callVi (C := "GroupViewsModel") (nn := 1) ⟨hx, hb, hml.trans rfl, hown, hts⟩ (ct_MD_present l D ad ct had _ _ (by omega) (by rw [zc 70 n (by decide) (by omega)]; omega)) (mk_V hts t_393 t_395 ts_MD_present t_4 t_396 rfl rfl (by decide +kernel) ⟨Nat.le_of_ble_eq_true rfl, Nat.le_of_ble_eq_true rfl⟩) hK.1 rfl w_M rfl (fun _ h => h) (gK_ok D ct) hK (Nat.le_of_ble_eq_true rfl) ⟨Nat.zero_le _, Nat.zero_le _⟩ rfl rfl d_MD_limits_70 ?_
        rintro _ _ ⟨rfl, rfl⟩
        refine g_val (show nI _ = nI (rps V n) from congrArg nI (by unfold rps; simp (disch := omega) only [zc])) ?_
        refine n_iand hx hb d_MD_limits_73 ?_
        refine g_istore_n (L' := [_, _, _, _, _, _, _]) hx hb d_MD_limits_74 rfl (Nat.le_of_ble_eq_true rfl) rfl ?_
        refine g_iconst hx hb d_MD_limits_75 k_iconst_0 ?_
        refine g_istore (L' := [_, _, _, _, _, _, _]) hx hb d_MD_limits_76 (Nat.le_of_ble_eq_true rfl) rfl ?_
        refine g_loop 4 (fun q => gw ad ct (rlq Z n (V 75 n) (V 80 (V 75 n) &&& rps V n) q)) (fun q => [some (.ref (ad 69)), some (.int (nI n)), some (.int (nI (V 75 n))), some (.int (nI ((V 80 (V 75 n)) &&& (rps V n)))), some (.int (nI q)), none, none]) (fun q => ∀ j, j < q → ¬ (V 80 (V 75 n) &&& rps V n) / 2 ^ j % 2 = 0 → ¬ Z 87 (64 * n + (16 * j + Z 81 (4 * V 75 n + j))) = 0) 0 (by omega) (fun j hj => absurd hj (Nat.not_lt_zero j)) rfl rfl ?_
        intro q hq0_q hqE_q hI_q ih_q
        try dsimp only
        refine g_iload hx hb d_MD_limits_78 rfl ?_
        refine g_iconst hx hb d_MD_limits_80 k_iconst_4 ?_
        refine n_icmp_ge (tgt := 241) hx hb d_MD_limits_81 (by decide) (by omega) (by omega) (fun hc2 => ?_) (fun hc2 => ?_)
        · have hq4 : q = 4 := by omega
          subst hq4
          refine g_iconst hx hb d_MD_limits_241 k_iconst_2 ?_
          exact g_iret hx hb hr hlk d_MD_limits_242 (⟨2, _, Or.inr (Or.inr (Or.inr ⟨rfl, hb2, hv0, fun j hj hb => (by have z := hI_q j (by omega) hb; rw [zc 87 _ (by decide) (by omega), zc 81 _ (by decide) (by omega)] at z; exact z), by rw [hZ]⟩)), rfl, rfl⟩)
        · have hq : q < 4 := by omega
          have hst : Z 81 (4 * V 75 n + q) ≤ 15 := by rw [zc 81 _ (by decide) (by omega)]; exact hb0.s _
          have hz87 : Z 87 (64 * n + (16 * q + Z 81 (4 * V 75 n + q))) ≤ 1 := by rw [zc 87 _ (by decide) (by omega)]; exact hb0.he _
          have hz85 : Z 85 (16 * q + Z 81 (4 * V 75 n + q)) ≤ 15 := by rw [zc 85 _ (by decide) (by omega)]; exact hb0.sv _
          have hz70 : Z 70 n ≤ 15 := by rw [zc 70 _ (by decide) (by omega)]; omega
          refine g_bipush hx hb d_MD_limits_84 k_bipush_16 ?_
          refine g_iload hx hb d_MD_limits_86 rfl ?_
          refine n_imul hx hb d_MD_limits_88 ?_
          refine g_aload_n hx hb d_MD_limits_89 rfl rfl ?_
          refine g_get hx hb hts (in_mw in_MD) hown hK.1 w_M rfl 12 (by decide) (hts _ (List.mem_cons_of_mem _ t_327)) rfl d_MD_limits_90 ?_
          refine g_iconst hx hb d_MD_limits_93 k_iconst_4 ?_
          refine g_iload_n hx hb d_MD_limits_94 rfl rfl ?_
          refine n_imul hx hb d_MD_limits_95 ?_
          refine g_iload hx hb d_MD_limits_96 rfl ?_
          refine n_iadd hx hb d_MD_limits_98 ?_
          refine g_iald hx hb hK.1 (w_Ma (c := 81) (by decide) (by decide)) 0 rfl (show _ < 64 by omega) (by decide) rfl d_MD_limits_99 ?_
          refine g_val (show nI _ = nI (Z 81 (4 * V 75 n + q)) from congrArg nI (rlq_ne (by decide) (by omega) q)) ?_
          refine n_iadd hx hb d_MD_limits_100 ?_
          refine g_istore (L' := [_, _, _, _, _, _, _]) hx hb d_MD_limits_101 (Nat.le_of_ble_eq_true rfl) rfl ?_
          refine g_iload_n hx hb d_MD_limits_103 rfl rfl ?_
          refine g_iload hx hb d_MD_limits_104 rfl ?_
          refine n_ishr hx hb d_MD_limits_106 (by omega) (by omega) ?_
          refine g_iconst hx hb d_MD_limits_107 k_iconst_1 ?_
          refine n_iand hx hb d_MD_limits_108 ?_
          refine g_val (show nI _ = nI ((V 80 (V 75 n) &&& rps V n) / 2 ^ q % 2) from congrArg nI (Nat.and_one_is_mod _)) ?_
          refine n_if_ne (tgt := 115) hx hb d_MD_limits_109 (by decide) (by omega) (fun hbit => ?_) (fun hbit => ?_)
          · refine g_aload_n hx hb d_MD_limits_115 rfl rfl ?_
            refine g_get hx hb hts (in_mw in_MD) hown hK.1 w_M rfl 18 (by decide) (hts _ (List.mem_cons_of_mem _ t_333)) rfl d_MD_limits_116 ?_
            refine g_bipush hx hb d_MD_limits_119 k_bipush_64 ?_
            refine g_iload_n hx hb d_MD_limits_121 rfl rfl ?_
            refine n_imul hx hb d_MD_limits_122 ?_
            refine g_iload hx hb d_MD_limits_123 rfl ?_
            refine n_iadd hx hb d_MD_limits_125 ?_
            refine g_zald hx hb hK.1 (w_Ma (c := 87) (by decide) (by decide)) 1 rfl (show _ < 256 by omega) (by decide) rfl d_MD_limits_126 ?_
            refine g_val (show nI _ = nI (Z 87 (64 * n + (16 * q + Z 81 (4 * V 75 n + q)))) from congrArg nI (rlq_ne (by decide) (by omega) q)) ?_
            refine n_if_ne (tgt := 132) hx hb d_MD_limits_127 (by decide) (by omega) (fun hkn => ?_) (fun hkn => ?_)
            · refine g_aload_n hx hb d_MD_limits_132 rfl rfl ?_
              refine g_get hx hb hts (in_mw in_MD) hown hK.1 w_M rfl 16 (by decide) (hts _ (List.mem_cons_of_mem _ t_331)) rfl d_MD_limits_133 ?_
              refine g_iload hx hb d_MD_limits_136 rfl ?_
              refine g_iald hx hb hK.1 (w_Ma (c := 85) (by decide) (by decide)) 0 rfl (show _ < 64 by omega) (by decide) rfl d_MD_limits_138 ?_
              refine g_val (show nI _ = nI (Z 85 (16 * q + Z 81 (4 * V 75 n + q))) from congrArg nI (rlq_ne (by decide) (by omega) q)) ?_
              refine g_aload_n hx hb d_MD_limits_139 rfl rfl ?_
              refine g_get hx hb hts (in_mw in_MD) hown hK.1 w_M rfl 0 (by decide) (hts _ (List.mem_cons_of_mem _ t_315)) rfl d_MD_limits_140 ?_
              refine g_iload_n hx hb d_MD_limits_143 rfl rfl ?_
              refine g_iald hx hb hK.1 (w_Ma (c := 70) (by decide) (by decide)) 0 rfl (show _ < 4 by omega) (by decide) rfl d_MD_limits_144 ?_
              refine g_val (show nI _ = nI (Z 70 n) from congrArg nI (rlq_ne (by decide) (by omega) q)) ?_
              refine n_icmp_ne (tgt := 235) hx hb d_MD_limits_145 (by decide) (by omega) (by omega) (fun hsv => ?_) (fun hsv => ?_)
              · refine n_iinc (L' := [_, _, _, _, _, _, _]) hx hb d_MD_limits_235 rfl rfl ?_
                refine g_goto (tgt := 78) hx hb d_MD_limits_238 (by decide) ?_
                refine g_sub (L' := [_, _, _, _, _, none, none]) ⟨Or.inr rfl, Or.inr rfl, Or.inr rfl, Or.inr rfl, Or.inr rfl, Or.inl rfl, Or.inl rfl, trivial⟩ ?_
                refine g_w (congrArg (gw ad ct) (show _ = rlq Z n (V 75 n) (V 80 (V 75 n) &&& rps V n) (q + 1) from by rw [rlq, if_pos (Or.inr (Or.inl hsv))])) ?_
                exact ih_q (by omega) (fun j hj hb => by
                  rcases Nat.lt_succ_iff_lt_or_eq.mp hj with z | z
                  · exact hI_q j z hb
                  · rw [z]; exact hkn)
              · refine g_aload_n hx hb d_MD_limits_148 rfl rfl ?_
                refine g_get hx hb hts (in_mw in_MD) hown hK.1 w_M rfl 0 (by decide) (hts _ (List.mem_cons_of_mem _ t_315)) rfl d_MD_limits_149 ?_
                refine g_iload_n hx hb d_MD_limits_152 rfl rfl ?_
                refine g_iald hx hb hK.1 (w_Ma (c := 70) (by decide) (by decide)) 0 rfl (show _ < 4 by omega) (by decide) rfl d_MD_limits_153 ?_
                refine g_val (show nI _ = nI (Z 70 n) from congrArg nI (rlq_ne (by decide) (by omega) q)) ?_
                refine n_if_ne (tgt := 166) hx hb d_MD_limits_154 (by decide) (by omega) (fun hvw => ?_) (fun hvw => ?_)
                · refine g_aload_n hx hb d_MD_limits_166 rfl rfl ?_
                  refine g_aload_n hx hb d_MD_limits_167 rfl rfl ?_
                  refine g_get hx hb hts (in_mw in_MD) hown hK.1 w_M rfl 22 (by decide) (hts _ (List.mem_cons_of_mem _ t_337)) rfl d_MD_limits_168 ?_
                  refine g_iconst hx hb d_MD_limits_171 k_iconst_1 ?_
                  refine g_iload hx hb d_MD_limits_172 rfl ?_
                  refine n_ishl hx hb d_MD_limits_174 (by omega) (q_p32 (by omega)) ?_
                  refine g_val (show nI _ = nI (2 ^ q) from congrArg nI (Nat.one_mul _)) ?_
                  refine n_ior hx hb d_MD_limits_175 ?_
                  refine g_put (ty := .int) hx hb hts (in_mw in_MD) ty_MD tyo_MD nm_MD hown hK.1 (gw_D had) w_M rfl 22 (by decide) (hts _ (List.mem_cons_of_mem _ t_337)) rfl (by decide +kernel) rfl rfl (Nat.le_of_ble_eq_true rfl) d_MD_limits_176 (s_M22 _) ?_
                  have hcond : ¬ ((V 80 (V 75 n) &&& rps V n) / 2 ^ q % 2 = 0 ∨ ¬ Z 85 (16 * q + Z 81 (4 * V 75 n + q)) = Z 70 n ∨ (Z 70 n = 0 ∧ ¬ q = n)) := fun z => by
                    rcases z with z | z | z
                    · exact hbit z
                    · exact z hsv
                    · exact hvw z.1
                  obtain ⟨U, hU⟩ : ∃ U : VV, U = pt (rlq Z n (V 75 n) (V 80 (V 75 n) &&& rps V n) q) 69 22 ((rlq Z n (V 75 n) (V 80 (V 75 n) &&& rps V n) q) 69 22 ||| 2 ^ q) := ⟨_, rfl⟩
                  refine g_w (congrArg (gw ad ct) hU.symm) ?_
                  have u86 : ∀ k, U 86 k ≤ 4 := fun k => by rw [hU, pt_ne (by decide), rlq_ne (by decide) (by omega), zc 86 k (by decide) (by omega)]; exact hb0.cu k
                  have u90 : ∀ j, j < 4 → U 90 j ≤ 4 := fun j hj => by
                    rw [hU, pt_ne (by decide)]
                    exact rlq_le (fun i => by rw [zc 86 i (by decide) (by omega)]; exact hb0.cu i) (fun i hi => by rw [hZ, rl0_at, if_pos hi]; exact Nat.zero_le _) q j hj
                  refine g_iconst hx hb d_MD_limits_179 k_iconst_0 ?_
                  refine g_istore (L' := [_, _, _, _, _, _, _]) hx hb d_MD_limits_180 (Nat.le_of_ble_eq_true rfl) rfl ?_
                  refine g_loop 4 (fun r => gw ad ct (rlr U (16 * q + Z 81 (4 * V 75 n + q)) r)) (fun r => [some (.ref (ad 69)), some (.int (nI n)), some (.int (nI (V 75 n))), some (.int (nI ((V 80 (V 75 n)) &&& (rps V n)))), some (.int (nI q)), some (.int (nI ((16 * q) + (Z 81 (4 * V 75 n + q))))), some (.int (nI r))]) (fun r => True) 0 (by omega) trivial rfl rfl ?_
                  intro r hq0_r hqE_r hI_r ih_r
                  try dsimp only
                  refine g_iload hx hb d_MD_limits_182 rfl ?_
                  refine g_iconst hx hb d_MD_limits_184 k_iconst_4 ?_
                  refine n_icmp_ge (tgt := 235) hx hb d_MD_limits_185 (by decide) (by omega) (by omega) (fun hr4b => ?_) (fun hr4b => ?_)
                  · have hr4 : r = 4 := by omega
                    subst hr4
                    refine n_iinc (L' := [_, _, _, _, _, _, _]) hx hb d_MD_limits_235 rfl rfl ?_
                    refine g_goto (tgt := 78) hx hb d_MD_limits_238 (by decide) ?_
                    refine g_sub (L' := [_, _, _, _, _, none, none]) ⟨Or.inr rfl, Or.inr rfl, Or.inr rfl, Or.inr rfl, Or.inr rfl, Or.inl rfl, Or.inl rfl, trivial⟩ ?_
                    refine g_w (congrArg (gw ad ct) (show _ = rlq Z n (V 75 n) (V 80 (V 75 n) &&& rps V n) (q + 1) from by rw [rlq, if_neg hcond, hU])) ?_
                    exact ih_q (by omega) (fun j hj hb => by
                      rcases Nat.lt_succ_iff_lt_or_eq.mp hj with z | z
                      · exact hI_q j z hb
                      · rw [z]; exact hkn)
                  · have hcu := u86 (4 * (16 * q + Z 81 (4 * V 75 n + q)) + r)
                    have hli : rlr U (16 * q + Z 81 (4 * V 75 n + q)) r 90 r ≤ 4 := by
                      rw [rlr_at]
                      split
                      · exact u86 _
                      · exact u90 r (by omega)
                    refine g_aload_n hx hb d_MD_limits_188 rfl rfl ?_
                    refine g_get hx hb hts (in_mw in_MD) hown hK.1 w_M rfl 17 (by decide) (hts _ (List.mem_cons_of_mem _ t_332)) rfl d_MD_limits_189 ?_
                    refine g_iconst hx hb d_MD_limits_192 k_iconst_4 ?_
                    refine g_iload hx hb d_MD_limits_193 rfl ?_
                    refine n_imul hx hb d_MD_limits_195 ?_
                    refine g_iload hx hb d_MD_limits_196 rfl ?_
                    refine n_iadd hx hb d_MD_limits_198 ?_
                    refine g_iald hx hb hK.1 (w_Ma (c := 86) (by decide) (by decide)) 0 rfl (show _ < 256 by omega) (by decide) rfl d_MD_limits_199 ?_
                    refine g_val (show nI _ = nI (U 86 (4 * (16 * q + Z 81 (4 * V 75 n + q)) + r)) from congrArg nI (rlr_ne (by decide) r)) ?_
                    refine g_aload_n hx hb d_MD_limits_200 rfl rfl ?_
                    refine g_get hx hb hts (in_mw in_MD) hown hK.1 w_M rfl 21 (by decide) (hts _ (List.mem_cons_of_mem _ t_336)) rfl d_MD_limits_201 ?_
                    refine g_iload hx hb d_MD_limits_204 rfl ?_
                    refine g_iald hx hb hK.1 (w_Ma (c := 90) (by decide) (by decide)) 0 rfl (show _ < 4 by omega) (by decide) rfl d_MD_limits_206 ?_
                    refine n_icmp_le (tgt := 229) hx hb d_MD_limits_207 (by decide) (by omega) (by omega) (fun hle => ?_) (fun hle => ?_)
                    · refine n_iinc (L' := [_, _, _, _, _, _, _]) hx hb d_MD_limits_229 rfl rfl ?_
                      refine g_goto (tgt := 182) hx hb d_MD_limits_232 (by decide) ?_
                      refine g_w (congrArg (gw ad ct) (show _ = rlr U (16 * q + Z 81 (4 * V 75 n + q)) (r + 1) from by rw [rlr, if_neg (by omega)])) ?_
                      exact ih_r (by omega) trivial
                    · refine g_aload_n hx hb d_MD_limits_210 rfl rfl ?_
                      refine g_get hx hb hts (in_mw in_MD) hown hK.1 w_M rfl 21 (by decide) (hts _ (List.mem_cons_of_mem _ t_336)) rfl d_MD_limits_211 ?_
                      refine g_iload hx hb d_MD_limits_214 rfl ?_
                      refine g_aload_n hx hb d_MD_limits_216 rfl rfl ?_
                      refine g_get hx hb hts (in_mw in_MD) hown hK.1 w_M rfl 17 (by decide) (hts _ (List.mem_cons_of_mem _ t_332)) rfl d_MD_limits_217 ?_
                      refine g_iconst hx hb d_MD_limits_220 k_iconst_4 ?_
                      refine g_iload hx hb d_MD_limits_221 rfl ?_
                      refine n_imul hx hb d_MD_limits_223 ?_
                      refine g_iload hx hb d_MD_limits_224 rfl ?_
                      refine n_iadd hx hb d_MD_limits_226 ?_
                      refine g_iald hx hb hK.1 (w_Ma (c := 86) (by decide) (by decide)) 0 rfl (show _ < 256 by omega) (by decide) rfl d_MD_limits_227 ?_
                      refine g_val (show nI _ = nI (U 86 (4 * (16 * q + Z 81 (4 * V 75 n + q)) + r)) from congrArg nI (rlr_ne (by decide) r)) ?_
                      refine g_iast hx hb hK.1 (gw_D had) (w_Ma (c := 90) (by decide) (by decide)) 0 rfl (show _ < 4 by omega) (by decide) d_MD_limits_228 (s_Ma (c := 90) (by decide) (by decide) _ _) ?_
                      refine n_iinc (L' := [_, _, _, _, _, _, _]) hx hb d_MD_limits_229 rfl rfl ?_
                      refine g_goto (tgt := 182) hx hb d_MD_limits_232 (by decide) ?_
                      refine g_w (congrArg (gw ad ct) (show _ = rlr U (16 * q + Z 81 (4 * V 75 n + q)) (r + 1) from by rw [rlr, if_pos hle])) ?_
                      exact ih_r (by omega) trivial
                · refine g_iload hx hb d_MD_limits_157 rfl ?_
                  refine g_iload_n hx hb d_MD_limits_159 rfl rfl ?_
                  refine n_icmp_eq (tgt := 166) hx hb d_MD_limits_160 (by decide) (by omega) (by omega) (fun hqp => ?_) (fun hqp => ?_)
                  · refine g_aload_n hx hb d_MD_limits_166 rfl rfl ?_
                    refine g_aload_n hx hb d_MD_limits_167 rfl rfl ?_
                    refine g_get hx hb hts (in_mw in_MD) hown hK.1 w_M rfl 22 (by decide) (hts _ (List.mem_cons_of_mem _ t_337)) rfl d_MD_limits_168 ?_
                    refine g_iconst hx hb d_MD_limits_171 k_iconst_1 ?_
                    refine g_iload hx hb d_MD_limits_172 rfl ?_
                    refine n_ishl hx hb d_MD_limits_174 (by omega) (q_p32 (by omega)) ?_
                    refine g_val (show nI _ = nI (2 ^ q) from congrArg nI (Nat.one_mul _)) ?_
                    refine n_ior hx hb d_MD_limits_175 ?_
                    refine g_put (ty := .int) hx hb hts (in_mw in_MD) ty_MD tyo_MD nm_MD hown hK.1 (gw_D had) w_M rfl 22 (by decide) (hts _ (List.mem_cons_of_mem _ t_337)) rfl (by decide +kernel) rfl rfl (Nat.le_of_ble_eq_true rfl) d_MD_limits_176 (s_M22 _) ?_
                    have hcond : ¬ ((V 80 (V 75 n) &&& rps V n) / 2 ^ q % 2 = 0 ∨ ¬ Z 85 (16 * q + Z 81 (4 * V 75 n + q)) = Z 70 n ∨ (Z 70 n = 0 ∧ ¬ q = n)) := fun z => by
                      rcases z with z | z | z
                      · exact hbit z
                      · exact z hsv
                      · exact z.2 hqp
                    obtain ⟨U, hU⟩ : ∃ U : VV, U = pt (rlq Z n (V 75 n) (V 80 (V 75 n) &&& rps V n) q) 69 22 ((rlq Z n (V 75 n) (V 80 (V 75 n) &&& rps V n) q) 69 22 ||| 2 ^ q) := ⟨_, rfl⟩
                    refine g_w (congrArg (gw ad ct) hU.symm) ?_
                    have u86 : ∀ k, U 86 k ≤ 4 := fun k => by rw [hU, pt_ne (by decide), rlq_ne (by decide) (by omega), zc 86 k (by decide) (by omega)]; exact hb0.cu k
                    have u90 : ∀ j, j < 4 → U 90 j ≤ 4 := fun j hj => by
                      rw [hU, pt_ne (by decide)]
                      exact rlq_le (fun i => by rw [zc 86 i (by decide) (by omega)]; exact hb0.cu i) (fun i hi => by rw [hZ, rl0_at, if_pos hi]; exact Nat.zero_le _) q j hj
                    refine g_iconst hx hb d_MD_limits_179 k_iconst_0 ?_
                    refine g_istore (L' := [_, _, _, _, _, _, _]) hx hb d_MD_limits_180 (Nat.le_of_ble_eq_true rfl) rfl ?_
                    refine g_loop 4 (fun r => gw ad ct (rlr U (16 * q + Z 81 (4 * V 75 n + q)) r)) (fun r => [some (.ref (ad 69)), some (.int (nI n)), some (.int (nI (V 75 n))), some (.int (nI ((V 80 (V 75 n)) &&& (rps V n)))), some (.int (nI q)), some (.int (nI ((16 * q) + (Z 81 (4 * V 75 n + q))))), some (.int (nI r))]) (fun r => True) 0 (by omega) trivial rfl rfl ?_
                    intro r hq0_r hqE_r hI_r ih_r
                    try dsimp only
                    refine g_iload hx hb d_MD_limits_182 rfl ?_
                    refine g_iconst hx hb d_MD_limits_184 k_iconst_4 ?_
                    refine n_icmp_ge (tgt := 235) hx hb d_MD_limits_185 (by decide) (by omega) (by omega) (fun hr4b => ?_) (fun hr4b => ?_)
                    · have hr4 : r = 4 := by omega
                      subst hr4
                      refine n_iinc (L' := [_, _, _, _, _, _, _]) hx hb d_MD_limits_235 rfl rfl ?_
                      refine g_goto (tgt := 78) hx hb d_MD_limits_238 (by decide) ?_
                      refine g_sub (L' := [_, _, _, _, _, none, none]) ⟨Or.inr rfl, Or.inr rfl, Or.inr rfl, Or.inr rfl, Or.inr rfl, Or.inl rfl, Or.inl rfl, trivial⟩ ?_
                      refine g_w (congrArg (gw ad ct) (show _ = rlq Z n (V 75 n) (V 80 (V 75 n) &&& rps V n) (q + 1) from by rw [rlq, if_neg hcond, hU])) ?_
                      exact ih_q (by omega) (fun j hj hb => by
                        rcases Nat.lt_succ_iff_lt_or_eq.mp hj with z | z
                        · exact hI_q j z hb
                        · rw [z]; exact hkn)
                    · have hcu := u86 (4 * (16 * q + Z 81 (4 * V 75 n + q)) + r)
                      have hli : rlr U (16 * q + Z 81 (4 * V 75 n + q)) r 90 r ≤ 4 := by
                        rw [rlr_at]
                        split
                        · exact u86 _
                        · exact u90 r (by omega)
                      refine g_aload_n hx hb d_MD_limits_188 rfl rfl ?_
                      refine g_get hx hb hts (in_mw in_MD) hown hK.1 w_M rfl 17 (by decide) (hts _ (List.mem_cons_of_mem _ t_332)) rfl d_MD_limits_189 ?_
                      refine g_iconst hx hb d_MD_limits_192 k_iconst_4 ?_
                      refine g_iload hx hb d_MD_limits_193 rfl ?_
                      refine n_imul hx hb d_MD_limits_195 ?_
                      refine g_iload hx hb d_MD_limits_196 rfl ?_
                      refine n_iadd hx hb d_MD_limits_198 ?_
                      refine g_iald hx hb hK.1 (w_Ma (c := 86) (by decide) (by decide)) 0 rfl (show _ < 256 by omega) (by decide) rfl d_MD_limits_199 ?_
                      refine g_val (show nI _ = nI (U 86 (4 * (16 * q + Z 81 (4 * V 75 n + q)) + r)) from congrArg nI (rlr_ne (by decide) r)) ?_
                      refine g_aload_n hx hb d_MD_limits_200 rfl rfl ?_
                      refine g_get hx hb hts (in_mw in_MD) hown hK.1 w_M rfl 21 (by decide) (hts _ (List.mem_cons_of_mem _ t_336)) rfl d_MD_limits_201 ?_
                      refine g_iload hx hb d_MD_limits_204 rfl ?_
                      refine g_iald hx hb hK.1 (w_Ma (c := 90) (by decide) (by decide)) 0 rfl (show _ < 4 by omega) (by decide) rfl d_MD_limits_206 ?_
                      refine n_icmp_le (tgt := 229) hx hb d_MD_limits_207 (by decide) (by omega) (by omega) (fun hle => ?_) (fun hle => ?_)
                      · refine n_iinc (L' := [_, _, _, _, _, _, _]) hx hb d_MD_limits_229 rfl rfl ?_
                        refine g_goto (tgt := 182) hx hb d_MD_limits_232 (by decide) ?_
                        refine g_w (congrArg (gw ad ct) (show _ = rlr U (16 * q + Z 81 (4 * V 75 n + q)) (r + 1) from by rw [rlr, if_neg (by omega)])) ?_
                        exact ih_r (by omega) trivial
                      · refine g_aload_n hx hb d_MD_limits_210 rfl rfl ?_
                        refine g_get hx hb hts (in_mw in_MD) hown hK.1 w_M rfl 21 (by decide) (hts _ (List.mem_cons_of_mem _ t_336)) rfl d_MD_limits_211 ?_
                        refine g_iload hx hb d_MD_limits_214 rfl ?_
                        refine g_aload_n hx hb d_MD_limits_216 rfl rfl ?_
                        refine g_get hx hb hts (in_mw in_MD) hown hK.1 w_M rfl 17 (by decide) (hts _ (List.mem_cons_of_mem _ t_332)) rfl d_MD_limits_217 ?_
                        refine g_iconst hx hb d_MD_limits_220 k_iconst_4 ?_
                        refine g_iload hx hb d_MD_limits_221 rfl ?_
                        refine n_imul hx hb d_MD_limits_223 ?_
                        refine g_iload hx hb d_MD_limits_224 rfl ?_
                        refine n_iadd hx hb d_MD_limits_226 ?_
                        refine g_iald hx hb hK.1 (w_Ma (c := 86) (by decide) (by decide)) 0 rfl (show _ < 256 by omega) (by decide) rfl d_MD_limits_227 ?_
                        refine g_val (show nI _ = nI (U 86 (4 * (16 * q + Z 81 (4 * V 75 n + q)) + r)) from congrArg nI (rlr_ne (by decide) r)) ?_
                        refine g_iast hx hb hK.1 (gw_D had) (w_Ma (c := 90) (by decide) (by decide)) 0 rfl (show _ < 4 by omega) (by decide) d_MD_limits_228 (s_Ma (c := 90) (by decide) (by decide) _ _) ?_
                        refine n_iinc (L' := [_, _, _, _, _, _, _]) hx hb d_MD_limits_229 rfl rfl ?_
                        refine g_goto (tgt := 182) hx hb d_MD_limits_232 (by decide) ?_
                        refine g_w (congrArg (gw ad ct) (show _ = rlr U (16 * q + Z 81 (4 * V 75 n + q)) (r + 1) from by rw [rlr, if_pos hle])) ?_
                        exact ih_r (by omega) trivial
                  · refine g_goto (tgt := 235) hx hb d_MD_limits_163 (by decide) ?_
                    refine n_iinc (L' := [_, _, _, _, _, _, _]) hx hb d_MD_limits_235 rfl rfl ?_
                    refine g_goto (tgt := 78) hx hb d_MD_limits_238 (by decide) ?_
                    refine g_sub (L' := [_, _, _, _, _, none, none]) ⟨Or.inr rfl, Or.inr rfl, Or.inr rfl, Or.inr rfl, Or.inr rfl, Or.inl rfl, Or.inl rfl, trivial⟩ ?_
                    refine g_w (congrArg (gw ad ct) (show _ = rlq Z n (V 75 n) (V 80 (V 75 n) &&& rps V n) (q + 1) from by rw [rlq, if_pos (Or.inr (Or.inr ⟨hvw, hqp⟩))])) ?_
                    exact ih_q (by omega) (fun j hj hb => by
                      rcases Nat.lt_succ_iff_lt_or_eq.mp hj with z | z
                      · exact hI_q j z hb
                      · rw [z]; exact hkn)
            · refine g_iconst hx hb d_MD_limits_130 k_iconst_0 ?_
              exact g_iret hx hb hr hlk d_MD_limits_131 (⟨0, _, Or.inr (Or.inr (Or.inl ⟨rfl, hb2, hv0, fun z => z q hq hbit (by rw [zc 87 _ (by decide) (by omega), zc 81 _ (by decide) (by omega)] at hkn; exact hkn), fun c k z1 z2 => by rw [rlq_ne z1 z2]; exact zc c k z1 z2⟩)), rfl, rfl⟩)
          · refine g_goto (tgt := 235) hx hb d_MD_limits_112 (by decide) ?_
            refine n_iinc (L' := [_, _, _, _, _, _, _]) hx hb d_MD_limits_235 rfl rfl ?_
            refine g_goto (tgt := 78) hx hb d_MD_limits_238 (by decide) ?_
            refine g_sub (L' := [_, _, _, _, _, none, none]) ⟨Or.inr rfl, Or.inr rfl, Or.inr rfl, Or.inr rfl, Or.inr rfl, Or.inl rfl, Or.inl rfl, trivial⟩ ?_
            refine g_w (congrArg (gw ad ct) (show _ = rlq Z n (V 75 n) (V 80 (V 75 n) &&& rps V n) (q + 1) from by rw [rlq, if_pos (Or.inl hbit)])) ?_
            exact ih_q (by omega) (fun j hj hb => by
              rcases Nat.lt_succ_iff_lt_or_eq.mp hj with z | z
              · exact hI_q j z hb
              · exact absurd (z ▸ hbit) hb)
      · refine g_iconst hx hb d_MD_limits_60 k_iconst_0 ?_
        exact g_iret hx hb hr hlk d_MD_limits_61 (⟨0, _, Or.inr (Or.inl ⟨rfl, hb2, hv0, fun c k z1 z2 => by rw [rl0_ne z1]; exact (rsm.rfl'.put69 0) c k z1 z2⟩), rfl, rfl⟩)
    · refine g_iconst hx hb d_MD_limits_47 k_iconst_1 ?_
      exact g_iret hx hb hr hlk d_MD_limits_48 (⟨1, _, Or.inl ⟨rfl, hb2, by rw [if_pos hb2]⟩, rfl, rfl⟩)
  · refine g_aload_n hx hb d_MD_limits_12 rfl rfl ?_
    refine g_get hx hb hts (in_mw in_MD) hown hK.1 w_M rfl 21 (by decide) (hts _ (List.mem_cons_of_mem _ t_336)) rfl d_MD_limits_13 ?_
    refine g_iload_n hx hb d_MD_limits_16 rfl rfl ?_
    refine g_aload_n hx hb d_MD_limits_17 rfl rfl ?_
    refine g_get hx hb hts (in_mw in_MD) hown hK.1 w_M rfl 4 (by decide) (hts _ (List.mem_cons_of_mem _ t_319)) rfl d_MD_limits_18 ?_
    refine g_iload_n hx hb d_MD_limits_21 rfl rfl ?_
    refine g_zald hx hb hK.1 (w_Ma (c := 74) (by decide) (by decide)) 1 rfl (show _ < 4 by omega) (by decide) rfl d_MD_limits_22 ?_
    refine g_val (show nI _ = nI (V 74 n) from congrArg nI (by rw [rl0_ne (by decide), pt_ne (by decide)])) ?_
    refine n_if_eq (tgt := 30) hx hb d_MD_limits_23 (by decide) (by omega) (fun hbl => ?_) (fun hbl => ?_)
    · refine g_iconst hx hb d_MD_limits_30 k_iconst_4 ?_
      refine g_iast hx hb hK.1 (gw_D had) (w_Ma (c := 90) (by decide) (by decide)) 0 rfl (show _ < 4 by omega) (by decide) d_MD_limits_31 (s_Ma (c := 90) (by decide) (by decide) _ _) ?_
      refine n_iinc (L' := [_, _, _, _, _, _, _]) hx hb d_MD_limits_32 rfl rfl ?_
      refine g_goto (tgt := 7) hx hb d_MD_limits_35 (by decide) ?_
      refine g_w (congrArg (gw ad ct) (show _ = rl0 (pt V 69 22 0) (if V 74 n = 0 then 4 else 0) (r + 1) from by rw [rl0, if_pos hbl])) ?_
      exact ih_r (by omega) trivial
    · refine g_iconst hx hb d_MD_limits_26 k_iconst_0 ?_
      refine g_goto (tgt := 31) hx hb d_MD_limits_27 (by decide) ?_
      refine g_iast hx hb hK.1 (gw_D had) (w_Ma (c := 90) (by decide) (by decide)) 0 rfl (show _ < 4 by omega) (by decide) d_MD_limits_31 (s_Ma (c := 90) (by decide) (by decide) _ _) ?_
      refine n_iinc (L' := [_, _, _, _, _, _, _]) hx hb d_MD_limits_32 rfl rfl ?_
      refine g_goto (tgt := 7) hx hb d_MD_limits_35 (by decide) ?_
      refine g_w (congrArg (gw ad ct) (show _ = rl0 (pt V 69 22 0) (if V 74 n = 0 then 4 else 0) (r + 1) from by rw [rl0, if_neg hbl])) ?_
      exact ih_r (by omega) trivial
set_option maxRecDepth 100000 in
set_option maxHeartbeats 4000000 in
theorem ct_MD_step (l : Launch) (D : va_G) (ad : Nat → Nat) (ct : Nat → ClassId) (had : adOk ad) (V : VV) (n : Nat) (h1 : n < 2 ^ 32) (hrb : RB V) : CTi l y_MD_step (mw y_MD_step c_MD_step 5 (some .int)) { frames := 2, cells := 0, slots := 0, locals := 47 } (gK D ct) D vcl (gA ad) [.ref (ad 69), .int (nI n)] (gw ad ct V) (fun r w => (¬ n < 4 ∧ r = -1 ∧ w = gw ad ct V) ∨ (n < 4 ∧ ∃ X', rStep V n r X' ∧ w = gw ad ct X')) := by
  refine ct_i (by decide) rfl rfl (Nat.le_of_ble_eq_true rfl) ?_
  intro pg en sx mx blw mth cdx hx hb hr hts hown hlk hml hK
  refine g_L (L' := [_, _, _, _, _]) rfl ?_
  refine g_iload_n hx hb d_MD_step_0 rfl rfl ?_
  refine g_iconst hx hb d_MD_step_1 k_iconst_0 ?_
  refine g_iconst hx hb d_MD_step_2 k_iconst_3 ?_
  refine g_callSi (nn := 3) ⟨hx, hb, hml.trans rfl, hown, hts⟩ (ct_MD_within l D ad ct had _ _ _ _ (by omega) (by omega) (by omega)) (mk_S hts t_390 t_391 t_4 t_392 rfl rfl (by decide +kernel) ⟨Nat.le_of_ble_eq_true rfl, Nat.le_of_ble_eq_true rfl⟩) (fun _ h => h) (gK_ok D ct) hK (Nat.le_of_ble_eq_true rfl) ⟨Nat.zero_le _, Nat.zero_le _⟩ rfl rfl d_MD_step_3 ?_
  rintro _ _ ⟨rfl, rfl⟩
  refine n_if_ne (tgt := 11) hx hb d_MD_step_6 (by decide) bN_lt (fun hn => ?_) (fun hn => ?_)
  · have hn := bN_n0.mp hn
    have hn : n < 4 := by omega
    refine g_aload_n hx hb d_MD_step_11 rfl rfl ?_
    refine g_iload_n hx hb d_MD_step_12 rfl rfl ?_
    refine g_callVi (C := "GroupViewsModel") (nn := 1) ⟨hx, hb, hml.trans rfl, hown, hts⟩ (ct_MD_limits l D ad ct had _ _ hn hrb.1) (mk_V hts t_421 t_423 ts_MD_limits t_4 t_424 rfl rfl (by decide +kernel) ⟨Nat.le_of_ble_eq_true rfl, Nat.le_of_ble_eq_true rfl⟩) hK.1 rfl w_M rfl (fun _ h => h) (gK_ok D ct) hK (Nat.le_of_ble_eq_true rfl) ⟨Nat.zero_le _, Nat.zero_le _⟩ rfl rfl d_MD_step_13 ?_
    rintro _ _ ⟨hw, Z, hlm, rfl, rfl⟩
    obtain ⟨hs, hw2, h90⟩ := rlim_ok hrb.1 hlm
    have hbZ := hrb.1.rsm hs
    have hpZ := hbZ.p n hn
    have hvZ := hbZ.v
    refine g_istore_n (L' := [_, _, _, _, _]) hx hb d_MD_step_16 rfl (Nat.le_of_ble_eq_true rfl) rfl ?_
    refine g_iload_n hx hb d_MD_step_17 rfl rfl ?_
    refine n_if_ne (tgt := 23) hx hb d_MD_step_18 (by decide) (by omega) (fun hw0 => ?_) (fun hw0 => ?_)
    · refine g_iconst hx hb d_MD_step_23 k_iconst_0 ?_
      refine g_istore_n (L' := [_, _, _, _, _]) hx hb d_MD_step_24 rfl (Nat.le_of_ble_eq_true rfl) rfl ?_
      refine g_loop 4 (fun q => gw ad ct Z) (fun q => [some (.ref (ad 69)), some (.int (nI n)), some (.int (nI hw)), some (.int (nI q)), none]) (fun q => ∀ j, j < q → ¬ rdl Z n j) 0 (by omega) (fun j hj => absurd hj (Nat.not_lt_zero j)) rfl rfl ?_
      intro q hq0_q hqE_q hI_q ih_q
      try dsimp only
      refine g_iload_n hx hb d_MD_step_25 rfl rfl ?_
      refine g_iconst hx hb d_MD_step_26 k_iconst_4 ?_
      refine n_icmp_ge (tgt := 114) hx hb d_MD_step_27 (by decide) (by omega) (by omega) (fun hc1 => ?_) (fun hc1 => ?_)
      · have hnone : ∀ j, j < 4 → ¬ rdl Z n j := fun j hj => hI_q j (by omega)
        clear hI_q ih_q hqE_q hq0_q
        refine g_iload_n hx hb d_MD_step_114 rfl rfl ?_
        refine g_iconst hx hb d_MD_step_115 k_iconst_1 ?_
        refine n_icmp_ne (tgt := 121) hx hb d_MD_step_116 (by decide) (by omega) (by omega) (fun hw1 => ?_) (fun hw1 => ?_)
        · refine g_iconst hx hb d_MD_step_121 k_iconst_0 ?_
          refine g_istore_n (L' := [_, _, _, _, _]) hx hb d_MD_step_122 rfl (Nat.le_of_ble_eq_true rfl) rfl ?_
          refine g_loop 4 (fun j => gw ad ct Z) (fun j => [some (.ref (ad 69)), some (.int (nI n)), some (.int (nI hw)), some (.int (nI j)), none]) (fun j => ∀ i, i < j → Z 78 (4 * n + i) = Z 90 i) 0 (by omega) (fun i hi => absurd hi (Nat.not_lt_zero i)) rfl rfl ?_
          intro j hq0_j hqE_j hI_j ih_j
          try dsimp only
          refine g_iload_n hx hb d_MD_step_123 rfl rfl ?_
          refine g_iconst hx hb d_MD_step_124 k_iconst_4 ?_
          refine n_icmp_ge (tgt := 155) hx hb d_MD_step_125 (by decide) (by omega) (by omega) (fun hc2 => ?_) (fun hc2 => ?_)
          · have hall : ∀ i, i < 4 → Z 78 (4 * n + i) = Z 90 i := fun i hi => hI_j i (by omega)
            clear hI_j ih_j hqE_j hq0_j
            refine g_aload_n hx hb d_MD_step_155 rfl rfl ?_
            refine g_get hx hb hts (in_mw in_MD) hown hK.1 w_M rfl 0 (by decide) (hts _ (List.mem_cons_of_mem _ t_315)) rfl d_MD_step_156 ?_
            refine g_iload_n hx hb d_MD_step_159 rfl rfl ?_
            refine g_aload_n hx hb d_MD_step_160 rfl rfl ?_
            refine g_get hx hb hts (in_mw in_MD) hown hK.1 w_M rfl 5 (by decide) (hts _ (List.mem_cons_of_mem _ t_320)) rfl d_MD_step_161 ?_
            refine g_iload_n hx hb d_MD_step_164 rfl rfl ?_
            refine g_iald hx hb hK.1 (w_Ma (c := 75) (by decide) (by decide)) 0 rfl (show _ < 4 by omega) (by decide) rfl d_MD_step_165 ?_
            refine g_iast hx hb hK.1 (gw_D had) (w_Ma (c := 70) (by decide) (by decide)) 0 rfl (show _ < 4 by omega) (by decide) d_MD_step_166 (s_Ma (c := 70) (by decide) (by decide) _ _) ?_
            refine g_aload_n hx hb d_MD_step_167 rfl rfl ?_
            refine g_iload_n hx hb d_MD_step_168 rfl rfl ?_
            refine g_iconst hx hb d_MD_step_169 k_iconst_2 ?_
            refine g_aload_n hx hb d_MD_step_170 rfl rfl ?_
            refine g_get hx hb hts (in_mw in_MD) hown hK.1 w_M rfl 0 (by decide) (hts _ (List.mem_cons_of_mem _ t_315)) rfl d_MD_step_171 ?_
            refine g_iload_n hx hb d_MD_step_174 rfl rfl ?_
            refine g_iald hx hb hK.1 (w_Ma (c := 70) (by decide) (by decide)) 0 rfl (show _ < 4 by omega) (by decide) rfl d_MD_step_175 ?_
            refine g_val (show nI _ = nI (Z 75 n) from congrArg nI (by simp (disch := omega) only [pt_eq, pt_ne, pt_nk])) ?_
            refine g_aload_n hx hb d_MD_step_176 rfl rfl ?_
            refine g_get hx hb hts (in_mw in_MD) hown hK.1 w_M rfl 11 (by decide) (hts _ (List.mem_cons_of_mem _ t_326)) rfl d_MD_step_177 ?_
            refine g_aload_n hx hb d_MD_step_180 rfl rfl ?_
            refine g_get hx hb hts (in_mw in_MD) hown hK.1 w_M rfl 0 (by decide) (hts _ (List.mem_cons_of_mem _ t_315)) rfl d_MD_step_181 ?_
            refine g_iload_n hx hb d_MD_step_184 rfl rfl ?_
            refine g_iald hx hb hK.1 (w_Ma (c := 70) (by decide) (by decide)) 0 rfl (show _ < 4 by omega) (by decide) rfl d_MD_step_185 ?_
            refine g_val (show nI _ = nI (Z 75 n) from congrArg nI (by simp (disch := omega) only [pt_eq, pt_ne, pt_nk])) ?_
            refine g_iald hx hb hK.1 (w_Ma (c := 80) (by decide) (by decide)) 0 rfl (show _ < 16 by omega) (by decide) rfl d_MD_step_186 ?_
            refine g_val (show nI _ = nI (Z 80 (Z 75 n)) from congrArg nI (by simp (disch := omega) only [pt_eq, pt_ne, pt_nk])) ?_
            refine g_aload_n hx hb d_MD_step_187 rfl rfl ?_
            refine g_get hx hb hts (in_mw in_MD) hown hK.1 w_M rfl 22 (by decide) (hts _ (List.mem_cons_of_mem _ t_337)) rfl d_MD_step_188 ?_
            refine g_val (show nI _ = nI (Z 69 22) from congrArg nI (by simp (disch := omega) only [pt_eq, pt_ne, pt_nk])) ?_
            refine g_callVv (C := "GroupViewsModel") (nn := 5) ⟨hx, hb, hml.trans rfl, hown, hts⟩ (ct_MD_note l D ad ct had _ _ _ _ _ _ (by omega)) (mk_V hts t_429 t_431 ts_MD_note t_4 t_432 rfl rfl (by decide +kernel) ⟨Nat.le_of_ble_eq_true rfl, Nat.le_of_ble_eq_true rfl⟩) hK.1 rfl w_M rfl (fun _ h => h) (gK_ok D ct) hK (Nat.le_of_ble_eq_true rfl) ⟨Nat.zero_le _, Nat.zero_le _⟩ rfl rfl d_MD_step_191 ?_
            rintro _ rfl
            refine g_aload_n hx hb d_MD_step_194 rfl rfl ?_
            refine g_get hx hb hts (in_mw in_MD) hown hK.1 w_M rfl 5 (by decide) (hts _ (List.mem_cons_of_mem _ t_320)) rfl d_MD_step_195 ?_
            refine g_iload_n hx hb d_MD_step_198 rfl rfl ?_
            refine g_iconst hx hb d_MD_step_199 k_iconst_0 ?_
            refine g_iast hx hb hK.1 (gw_D had) (w_Ma (c := 75) (by decide) (by decide)) 0 rfl (show _ < 4 by omega) (by decide) d_MD_step_200 (s_Ma (c := 75) (by decide) (by decide) _ _) ?_
            refine g_aload_n hx hb d_MD_step_201 rfl rfl ?_
            refine g_get hx hb hts (in_mw in_MD) hown hK.1 w_M rfl 4 (by decide) (hts _ (List.mem_cons_of_mem _ t_319)) rfl d_MD_step_202 ?_
            refine g_iload_n hx hb d_MD_step_205 rfl rfl ?_
            refine g_iconst hx hb d_MD_step_206 k_iconst_0 ?_
            refine g_zast hx hb hK.1 (gw_D had) (w_Ma (c := 74) (by decide) (by decide)) 1 rfl (show _ < 4 by omega) (by decide) d_MD_step_207 (by decide +kernel) (s_Ma (c := 74) (by decide) (by decide) _ _) ?_
            refine g_aload_n hx hb d_MD_step_208 rfl rfl ?_
            refine g_get hx hb hts (in_mw in_MD) hown hK.1 w_M rfl 7 (by decide) (hts _ (List.mem_cons_of_mem _ t_322)) rfl d_MD_step_209 ?_
            refine g_iload_n hx hb d_MD_step_212 rfl rfl ?_
            refine g_iconst hx hb d_MD_step_213 k_iconst_0 ?_
            refine g_iast hx hb hK.1 (gw_D had) (w_Ma (c := 77) (by decide) (by decide)) 0 rfl (show _ < 4 by omega) (by decide) d_MD_step_214 (s_Ma (c := 77) (by decide) (by decide) _ _) ?_
            refine g_iconst hx hb d_MD_step_215 k_iconst_0 ?_
            refine g_istore_n (L' := [_, _, _, _, _]) hx hb d_MD_step_216 rfl (Nat.le_of_ble_eq_true rfl) rfl ?_
            refine g_loop 4 (fun k => gw ad ct (rz4 (pt (pt (pt (rev (pt Z 70 n (Z 75 n)) n 2 (Z 75 n) (Z 80 (Z 75 n)) (Z 69 22)) 75 n 0) 74 n 0) 77 n 0) n k)) (fun k => [some (.ref (ad 69)), some (.int (nI n)), some (.int (nI hw)), some (.int (nI k)), none]) (fun k => True) 0 (by omega) trivial rfl rfl ?_
            intro k hq0_k hqE_k hI_k ih_k
            try dsimp only
            refine g_iload_n hx hb d_MD_step_217 rfl rfl ?_
            refine g_iconst hx hb d_MD_step_218 k_iconst_4 ?_
            refine n_icmp_ge (tgt := 239) hx hb d_MD_step_219 (by decide) (by omega) (by omega) (fun hc3 => ?_) (fun hc3 => ?_)
            · have hk4 : k = 4 := by omega
              subst hk4
              refine g_iconst hx hb d_MD_step_239 k_iconst_2 ?_
              exact g_iret hx hb hr hlk d_MD_step_240 (Or.inr ⟨hn, _, ⟨hw, Z, hlm, Or.inr (Or.inr (Or.inr (Or.inr ⟨by omega, hnone, hall, n2_eq, rfl⟩)))⟩, rfl⟩)
            · refine g_aload_n hx hb d_MD_step_222 rfl rfl ?_
              refine g_get hx hb hts (in_mw in_MD) hown hK.1 w_M rfl 8 (by decide) (hts _ (List.mem_cons_of_mem _ t_323)) rfl d_MD_step_223 ?_
              refine g_iconst hx hb d_MD_step_226 k_iconst_4 ?_
              refine g_iload_n hx hb d_MD_step_227 rfl rfl ?_
              refine n_imul hx hb d_MD_step_228 ?_
              refine g_iload_n hx hb d_MD_step_229 rfl rfl ?_
              refine n_iadd hx hb d_MD_step_230 ?_
              refine g_iconst hx hb d_MD_step_231 k_iconst_0 ?_
              refine g_iast hx hb hK.1 (gw_D had) (w_Ma (c := 78) (by decide) (by decide)) 0 rfl (show _ < 16 by omega) (by decide) d_MD_step_232 (s_Ma (c := 78) (by decide) (by decide) _ _) ?_
              refine n_iinc (L' := [_, _, _, _, _]) hx hb d_MD_step_233 rfl rfl ?_
              refine g_goto (tgt := 217) hx hb d_MD_step_236 (by decide) ?_
              exact ih_k (by omega) trivial
          · have x1 := hbZ.d (4 * n + j)
            have x2 := h90 hw0 j (by omega)
            refine g_aload_n hx hb d_MD_step_128 rfl rfl ?_
            refine g_get hx hb hts (in_mw in_MD) hown hK.1 w_M rfl 8 (by decide) (hts _ (List.mem_cons_of_mem _ t_323)) rfl d_MD_step_129 ?_
            refine g_iconst hx hb d_MD_step_132 k_iconst_4 ?_
            refine g_iload_n hx hb d_MD_step_133 rfl rfl ?_
            refine n_imul hx hb d_MD_step_134 ?_
            refine g_iload_n hx hb d_MD_step_135 rfl rfl ?_
            refine n_iadd hx hb d_MD_step_136 ?_
            refine g_iald hx hb hK.1 (w_Ma (c := 78) (by decide) (by decide)) 0 rfl (show _ < 16 by omega) (by decide) rfl d_MD_step_137 ?_
            refine g_aload_n hx hb d_MD_step_138 rfl rfl ?_
            refine g_get hx hb hts (in_mw in_MD) hown hK.1 w_M rfl 21 (by decide) (hts _ (List.mem_cons_of_mem _ t_336)) rfl d_MD_step_139 ?_
            refine g_iload_n hx hb d_MD_step_142 rfl rfl ?_
            refine g_iald hx hb hK.1 (w_Ma (c := 90) (by decide) (by decide)) 0 rfl (show _ < 4 by omega) (by decide) rfl d_MD_step_143 ?_
            refine n_icmp_eq (tgt := 149) hx hb d_MD_step_144 (by decide) (by omega) (by omega) (fun heq => ?_) (fun heq => ?_)
            · refine n_iinc (L' := [_, _, _, _, _]) hx hb d_MD_step_149 rfl rfl ?_
              refine g_goto (tgt := 123) hx hb d_MD_step_152 (by decide) ?_
              refine ih_j (by omega) (fun i hi => ?_)
              rcases Nat.lt_succ_iff_lt_or_eq.mp hi with z | z
              · exact hI_j i z
              · rw [z]; exact heq
            · refine g_iconst hx hb d_MD_step_147 k_iconst_0 ?_
              exact g_iret hx hb hr hlk d_MD_step_148 (Or.inr ⟨hn, _, ⟨hw, Z, hlm, Or.inr (Or.inr (Or.inr (Or.inl ⟨by omega, hnone, fun z => heq (z j (by omega)), n0_eq, rfl⟩)))⟩, rfl⟩)
        · refine g_iconst hx hb d_MD_step_119 k_iconst_0 ?_
          exact g_iret hx hb hr hlk d_MD_step_120 (Or.inr ⟨hn, _, ⟨hw, Z, hlm, Or.inr (Or.inr (Or.inl ⟨hw1, hnone, n0_eq, rfl⟩))⟩, rfl⟩)
      · have hq : q < 4 := by omega
        refine g_aload_n hx hb d_MD_step_30 rfl rfl ?_
        refine g_iload_n hx hb d_MD_step_31 rfl rfl ?_
        refine g_iload_n hx hb d_MD_step_32 rfl rfl ?_
        refine g_callVi (C := "GroupViewsModel") (nn := 2) ⟨hx, hb, hml.trans rfl, hown, hts⟩ (ct_MD_deliverable l D ad ct had _ _ _ hn hq hbZ (h90 hw0)) (mk_V hts t_425 t_427 ts_MD_deliverable t_4 t_428 rfl rfl (by decide +kernel) ⟨Nat.le_of_ble_eq_true rfl, Nat.le_of_ble_eq_true rfl⟩) hK.1 rfl w_M rfl (fun _ h => h) (gK_ok D ct) hK (Nat.le_of_ble_eq_true rfl) ⟨Nat.zero_le _, Nat.zero_le _⟩ rfl rfl d_MD_step_33 ?_
        rintro _ _ ⟨rfl, rfl⟩
        refine n_if_ne (tgt := 42) hx hb d_MD_step_36 (by decide) bC_lt (fun hdl => ?_) (fun hdl => ?_)
        · have hdl := bC_n0.mp hdl
          have c3 := hdl.1
          have c4 := h90 hw0 q hq
          refine g_bipush hx hb d_MD_step_42 k_bipush_16 ?_
          refine g_aload_n hx hb d_MD_step_44 rfl rfl ?_
          refine g_get hx hb hts (in_mw in_MD) hown hK.1 w_M rfl 0 (by decide) (hts _ (List.mem_cons_of_mem _ t_315)) rfl d_MD_step_45 ?_
          refine g_iload_n hx hb d_MD_step_48 rfl rfl ?_
          refine g_iald hx hb hK.1 (w_Ma (c := 70) (by decide) (by decide)) 0 rfl (show _ < 4 by omega) (by decide) rfl d_MD_step_49 ?_
          refine n_imul hx hb d_MD_step_50 ?_
          refine g_iconst hx hb d_MD_step_51 k_iconst_4 ?_
          refine g_iload_n hx hb d_MD_step_52 rfl rfl ?_
          refine n_imul hx hb d_MD_step_53 ?_
          refine n_iadd hx hb d_MD_step_54 ?_
          refine g_aload_n hx hb d_MD_step_55 rfl rfl ?_
          refine g_get hx hb hts (in_mw in_MD) hown hK.1 w_M rfl 8 (by decide) (hts _ (List.mem_cons_of_mem _ t_323)) rfl d_MD_step_56 ?_
          refine g_iconst hx hb d_MD_step_59 k_iconst_4 ?_
          refine g_iload_n hx hb d_MD_step_60 rfl rfl ?_
          refine n_imul hx hb d_MD_step_61 ?_
          refine g_iload_n hx hb d_MD_step_62 rfl rfl ?_
          refine n_iadd hx hb d_MD_step_63 ?_
          refine g_iald hx hb hK.1 (w_Ma (c := 78) (by decide) (by decide)) 0 rfl (show _ < 16 by omega) (by decide) rfl d_MD_step_64 ?_
          refine n_iadd hx hb d_MD_step_65 ?_
          refine g_istore (L' := [_, _, _, _, _]) hx hb d_MD_step_66 (Nat.le_of_ble_eq_true rfl) rfl ?_
          refine g_aload_n hx hb d_MD_step_68 rfl rfl ?_
          refine g_get hx hb hts (in_mw in_MD) hown hK.1 w_M rfl 8 (by decide) (hts _ (List.mem_cons_of_mem _ t_323)) rfl d_MD_step_69 ?_
          refine g_iconst hx hb d_MD_step_72 k_iconst_4 ?_
          refine g_iload_n hx hb d_MD_step_73 rfl rfl ?_
          refine n_imul hx hb d_MD_step_74 ?_
          refine g_iload_n hx hb d_MD_step_75 rfl rfl ?_
          refine n_iadd hx hb d_MD_step_76 ?_
          refine g_dup2 hx hb d_MD_step_77 rfl rfl ?_
          refine g_iald hx hb hK.1 (w_Ma (c := 78) (by decide) (by decide)) 0 rfl (show _ < 16 by omega) (by decide) rfl d_MD_step_78 ?_
          refine g_iconst hx hb d_MD_step_79 k_iconst_1 ?_
          refine n_iadd hx hb d_MD_step_80 ?_
          refine g_iast hx hb hK.1 (gw_D had) (w_Ma (c := 78) (by decide) (by decide)) 0 rfl (show _ < 16 by omega) (by decide) d_MD_step_81 (s_Ma (c := 78) (by decide) (by decide) _ _) ?_
          refine g_aload_n hx hb d_MD_step_82 rfl rfl ?_
          refine g_iload_n hx hb d_MD_step_83 rfl rfl ?_
          refine g_iconst hx hb d_MD_step_84 k_iconst_1 ?_
          refine g_iload_n hx hb d_MD_step_85 rfl rfl ?_
          refine g_aload_n hx hb d_MD_step_86 rfl rfl ?_
          refine g_get hx hb hts (in_mw in_MD) hown hK.1 w_M rfl 8 (by decide) (hts _ (List.mem_cons_of_mem _ t_323)) rfl d_MD_step_87 ?_
          refine g_iconst hx hb d_MD_step_90 k_iconst_4 ?_
          refine g_iload_n hx hb d_MD_step_91 rfl rfl ?_
          refine n_imul hx hb d_MD_step_92 ?_
          refine g_iload_n hx hb d_MD_step_93 rfl rfl ?_
          refine n_iadd hx hb d_MD_step_94 ?_
          refine g_iald hx hb hK.1 (w_Ma (c := 78) (by decide) (by decide)) 0 rfl (show _ < 16 by omega) (by decide) rfl d_MD_step_95 ?_
          refine g_val (show nI _ = nI ((Z 78 ((4 * n) + q)) + 1) from congrArg nI (by simp (disch := omega) only [pt_eq, pt_ne, pt_nk])) ?_
          refine g_aload_n hx hb d_MD_step_96 rfl rfl ?_
          refine g_get hx hb hts (in_mw in_MD) hown hK.1 w_M rfl 13 (by decide) (hts _ (List.mem_cons_of_mem _ t_328)) rfl d_MD_step_97 ?_
          refine g_iload hx hb d_MD_step_100 rfl ?_
          refine g_iald hx hb hK.1 (w_Ma (c := 82) (by decide) (by decide)) 0 rfl (show _ < 256 by omega) (by decide) rfl d_MD_step_102 ?_
          refine g_val (show nI _ = nI (Z 82 (((16 * (Z 70 n)) + (4 * q)) + (Z 78 ((4 * n) + q)))) from congrArg nI (by simp (disch := omega) only [pt_eq, pt_ne, pt_nk])) ?_
          refine g_callVv (C := "GroupViewsModel") (nn := 5) ⟨hx, hb, hml.trans rfl, hown, hts⟩ (ct_MD_note l D ad ct had _ _ _ _ _ _ (by omega)) (mk_V hts t_429 t_431 ts_MD_note t_4 t_432 rfl rfl (by decide +kernel) ⟨Nat.le_of_ble_eq_true rfl, Nat.le_of_ble_eq_true rfl⟩) hK.1 rfl w_M rfl (fun _ h => h) (gK_ok D ct) hK (Nat.le_of_ble_eq_true rfl) ⟨Nat.zero_le _, Nat.zero_le _⟩ rfl rfl d_MD_step_103 ?_
          rintro _ rfl
          refine g_iconst hx hb d_MD_step_106 k_iconst_1 ?_
          exact g_iret hx hb hr hlk d_MD_step_107 (Or.inr ⟨hn, _, ⟨hw, Z, hlm, Or.inr (Or.inl ⟨hw0, q, hq, hdl, hI_q, n1_eq, rfl⟩)⟩, rfl⟩)
        · have hdl := bC_0.mp hdl
          refine g_goto (tgt := 108) hx hb d_MD_step_39 (by decide) ?_
          refine n_iinc (L' := [_, _, _, _, _]) hx hb d_MD_step_108 rfl rfl ?_
          refine g_goto (tgt := 25) hx hb d_MD_step_111 (by decide) ?_
          refine ih_q (by omega) (fun j hj => ?_)
          rcases Nat.lt_succ_iff_lt_or_eq.mp hj with z | z
          · exact hI_q j z
          · rw [z]; exact hdl
    · refine g_iconst hx hb d_MD_step_21 k_iconst_0 ?_
      exact g_iret hx hb hr hlk d_MD_step_22 (Or.inr ⟨hn, _, ⟨hw, Z, hlm, Or.inl ⟨hw0, n0_eq, rfl⟩⟩, rfl⟩)
  · have hn := bN_0.mp hn
    have hn : ¬ n < 4 := by omega
    refine g_iconst hx hb d_MD_step_9 k_iconst_m1 ?_
    exact g_iret hx hb hr hlk d_MD_step_10 (Or.inl ⟨hn, rfl, rfl⟩)
end
section
theorem ra_uniq {U : State} {a b : ClassId} {ty : FieldType} (h1 : va_RA U a ty) (h2 : va_RA U b ty) : a = b := by
  cases ty with
  | object C =>
    obtain ⟨_, _, _, _, _, e1⟩ := h1
    obtain ⟨_, _, _, _, _, e2⟩ := h2
    exact Option.some.inj (e1.symm.trans e2)
  | _ => exact Option.some.inj (Eq.trans (Eq.symm h1) h2)
/-- a call's cell among the caller's: what came back beside the rest -/
theorem join1 {A0 : Nat → Prop} {D : va_G} {cl : List vw_C} {wr b : va_W} {q : Nat} {x0 : va_E} {H H1 : Heap} (hP : va_P D cl (wr ++ [(q, x0)]) H) (hD : va_D A0 (wr ++ [(q, x0)])) (hF : ∀ y, va_A [(q, x0)] H.size y → A0 y)
    (hk : ∀ y : Nat, y < H.size → ¬ va_A [(q, x0)] H.size y → H1[y]? = H[y]?) (hP1 : va_P D cl b H1) (hD1 : va_D (va_A [(q, x0)] H.size) b) : va_P D cl (wr ++ b) H1 ∧ va_D A0 (wr ++ b) := by
  have up : ∀ (i : Nat) (x : Nat × va_E), wr[i]? = some x → (wr ++ [(q, x0)])[i]? = some x := fun i x hx => by
    rw [List.getElem?_append_left (List.getElem?_eq_some_iff.mp hx).1]; exact hx
  have hlast : (wr ++ [(q, x0)])[wr.length]? = some (q, x0) := by simp
  have off : ∀ (i : Nat) (x : Nat × va_E), wr[i]? = some x → x.1 < H.size ∧ ¬ va_A [(q, x0)] H.size x.1 := by
    intro i x hx
    have hlt := (hP i x (up i x hx)).lt
    refine ⟨hlt, fun h => ?_⟩
    rcases h with ⟨j, e, h⟩ | h
    · have hj : j = 0 := by
        have := (List.getElem?_eq_some_iff.mp h).1
        simp at this
        exact this
      subst hj
      simp at h
      have hi := hD.1 i wr.length x (q, x0) (up i x hx) hlast (by rw [← h.1])
      have := (List.getElem?_eq_some_iff.mp hx).1
      omega
    · omega
  refine ⟨va_P.app (fun i x hx => (hP i x (up i x hx)).kept (hk x.1 (off i x hx).1 (off i x hx).2)) hP1, va_D.app ⟨fun i j x y hi hj => hD.1 i j x y (up i x hi) (up j y hj), fun i x hx => hD.2 i x (up i x hx)⟩ (hD1.weaken (fun _ y _ h => hF y.1 h)) (fun i j x y hx hy hxy => ?_)⟩
  exact (off i x hx).2 (by rw [hxy]; exact hD1.2 j y hy)
section AL
variable {p : Program} {l : Launch} {e : Env} {R : Room} {s : State} {m : MethodId} {args : Array Value} {below : List Frame} {meth : Method} {c : Code} {D : va_G} {cl : List vw_C} {A : Nat → Prop} {k n : Nat} {Q : State → Prop} {w : va_W} {L : List (Option Value)} {pc : Nat} {st rest : List Value} {cc : ByteArray} {tys : List (ClassId × FieldType)}
theorem g_newa (hx : p.tables.exec = Jvm.exec) (hb : c.code = cc) {atype : ArrayType} {ty : FieldType} {cA : ClassId} {N' : Nat} {a0 : vp_A} (harr : (Cond.arrayClass (newarray.typeOf atype)).before args s = true) (hty : newarray.typeOf atype = ty) (hK : va_K D cl tys s) (t0 : Nat) (ht : tys[t0]? = some (cA, ty)) (hD : va_D A w) (hA : ∀ q, s.heap.size ≤ q → A q) (ha : ∀ cB : ClassId, vp_cell cB a0 = arrV cB N' (fun _ => defaultValue ty)) (hN : N' < 2 ^ 31) (hby : N' * componentBytes ty ≤ 536870912) (hc : k + 1 ≤ R.cells) (hs : n + N' ≤ R.slots) (hd : decode cc pc = .ok (.newarray atype, 2))
    (kk : ∀ q : Nat, va_D A (w ++ [(q, .inl (cA, a0))]) → G p l e R s m args below meth c D cl A (k + 1) (n + N') Q (w ++ [(q, .inl (cA, a0))]) L (pc + 2) (.ref q :: st)) : G p l e R s m args below meth c D cl A k n Q w L pc (.int (nI N') :: st) := by
  intro H locs ls hP hS hl
  refine va_newa hx hb harr hty hK hP hD hS hA ha (nI_pos hN) (nI_clamp hN) hby hc hs hd (fun q cB H1 hK1 hP1 hD1 hS1 => ?_)
  have h1 := (hK1.2 tys.length (cB, ty) (by simp)).2
  have h2 := (hK.2 t0 _ ht).2
  have e : cB = cA := ra_uniq h1 h2
  subst e
  exact kk q hD1 H1 locs ls hP1 hS1 hl
theorem g_newq (hx : p.tables.exec = Jvm.exec) (hb : c.code = cc) {own C : String} {index : Nat} {cA : ClassId} {N' : Nat} (hown : s.vm.findClass own = some m.cls) (hcl : (Cond.classLink own index C).before args s = true) (hov : va_AO C s) (hK : va_K D cl tys s) (t0 : Nat) (ht : tys[t0]? = some (cA, .object C)) (hD : va_D A w) (hA : ∀ q, s.heap.size ≤ q → A q) (hN : N' < 2 ^ 31) (hby : N' * 4 ≤ 536870912) (hc : k + 1 ≤ R.cells) (hs : n + N' ≤ R.slots) (hd : decode cc pc = .ok (.anewarray index, 3))
    (kk : ∀ q : Nat, va_D A (w ++ [(q, .inl (cA, N', .inr (.inr (.inr (.inr (fun _ => none))))))]) → G p l e R s m args below meth c D cl A (k + 1) (n + N') Q (w ++ [(q, .inl (cA, N', .inr (.inr (.inr (.inr (fun _ => none))))))]) L (pc + 3) (.ref q :: st)) : G p l e R s m args below meth c D cl A k n Q w L pc (.int (nI N') :: st) := by
  intro H locs ls hP hS hl
  refine va_newq hx hb hown hcl hov hK hP hD hS hA (nI_pos hN) (nI_clamp hN) hby hc hs hd (fun q cB H1 hK1 hP1 hD1 hS1 => ?_)
  have h1 := (hK1.2 tys.length (cB, .object C) (by simp)).2
  have h2 := (hK.2 t0 _ ht).2
  have e : cB = cA := ra_uniq h1 h2
  subst e
  exact kk q hD1 H1 locs ls hP1 hS1 hl
theorem g_new (hx : p.tables.exec = Jvm.exec) (hb : c.code = cc) {own C : String} {T : u_T} {N ci index : Nat} {Ts : List Cond} {fs : List Value} (hts : ∀ w ∈ Ts, w.before args s = true) (hin : ∀ w ∈ u_ws C T N, w ∈ Ts) (ty : Nat → FieldType) (hty : ∀ k, k < N → parseFieldDescriptor (T k).2.2.1 = some (ty k)) (hown : s.vm.findClass own = some m.cls) (hcl : (Cond.classLink own index C).before args s = true) (hins : (Cond.instantiable C N).before args s = true) (hini : (Cond.initialized C).before args s = true) (hK : va_K D cl tys s) (hD : va_D A w) (hA : ∀ q, s.heap.size ≤ q → A q) (hc : cl[ci]? = some (C, T, N)) (hfs : ∀ j, j < N → defaultValue (ty j) = vp_V fs j) (hce : k + 1 ≤ R.cells) (hsl : n + N ≤ R.slots) (hd : decode cc pc = .ok (.new index, 3))
    (kk : ∀ q : Nat, va_D A (w ++ [(q, .inr (ci, fs))]) → G p l e R s m args below meth c D cl A (k + 1) (n + N) Q (w ++ [(q, .inr (ci, fs))]) L (pc + 3) (.ref q :: st)) : G p l e R s m args below meth c D cl A k n Q w L pc st :=
  fun H locs ls hP hS hl => va_new hx hb hts hin ty hty hown hcl hins hini hK hP hD hS hA hc hfs hce hsl hd (fun q H1 hP1 hD1 hS1 => kk q hD1 H1 locs ls hP1 hS1 hl)
theorem g_putF (hx : p.tables.exec = Jvm.exec) (hb : c.code = cc) {own C : String} {T : u_T} {N ci index : Nat} {Ts : List Cond} {a q0 : Nat} {fs : List Value} {v : Value} {ty : FieldType} {w' : va_W} (hts : ∀ w ∈ Ts, w.before args s = true) (hin : ∀ w ∈ u_ws C T N, w ∈ Ts) (ty0 : Nat → FieldType) (hty : ∀ k, k < N → parseFieldDescriptor (T k).2.2.1 = some (ty0 k)) (hnm : ∀ a, a < N → ∀ b, b < N → a ≠ b → (T a).2.1 ≠ (T b).2.1) (hown : s.vm.findClass own = some m.cls) (hK : va_K D cl tys s) (hD : va_D A w) (he : w[q0]? = some (a, .inr (ci, fs))) (hc : cl[ci]? = some (C, T, N)) (f : Nat) (hf : f < N) (hlink : (Cond.fieldLink own index (T f).1 (T f).2.1 (T f).2.2.1).before args s = true) (hfin : (T f).2.2.2 = true) (hin2 : meth.name = "<init>") (hdecl : (T f).1 = own) (hpd : parseFieldDescriptor (T f).2.2.1 = some ty) (hn : narrow ty v = v) (hfit : fits ty v = true) (hl2 : f < fs.length) (hd : decode cc pc = .ok (.putfield index, 3)) (hw : w.set q0 (a, .inr (ci, fs.set f v)) = w')
    (kk : va_D A w' → G p l e R s m args below meth c D cl A k n Q w' L (pc + 3) st) : G p l e R s m args below meth c D cl A k n Q w L pc (v :: .ref a :: st) :=
  fun H locs ls hP hS hl => va_putF hx hb hts hin ty0 hty hnm hown hK hP hD hS q0 he hc f hf hlink (fun _ h => h) hfin hin2 hdecl hpd hn hfit hl2 hd (fun H1 locs1 hP1 hD1 hS1 => kk (hw ▸ hD1) H1 locs1 ls (hw ▸ hP1) hS1 hl)
theorem g_obj (hx : p.tables.exec = Jvm.exec) (hb : c.code = cc) {own : String} {idx a : Nat} (hown : s.vm.findClass own = some m.cls) (hlink : (Cond.methodLink own idx objectInit).before args s = true) (hinst : (Cond.instanceMethod objectInit).before args s = true) (hcode : (Cond.code objectInit ⟨#[0xb1]⟩ 1 none).before args s = true) (hml : c.maxLocals = L.length) (hd : decode cc pc = .ok (.invokespecial idx, 3)) (hfr : 1 ≤ R.frames) (hlo : (st.map fun v => v.category).sum + 12 ≤ R.locals)
    (kk : G p l e R s m args below meth c D cl A k n Q w L (pc + 3) st) : G p l e R s m args below meth c D cl A k n Q w L pc (.ref a :: st) :=
  fun H locs ls hP hS hl => W.objInit hx hb hown hlink hinst hcode (g := F0 m pc ls (.ref a :: st)) rfl (by rw [hml]; exact hl.1) rfl hd hfr (by show 2 * 0 + _ + 12 ≤ _; omega) (W.eq (g2 := F0 m (pc + 3) ls st) rfl (kk H locs ls hP hS hl))
theorem g_aast (hx : p.tables.exec = Jvm.exec) (hb : c.code = cc) {a q0 qk ci j len v : Nat} {cA : ClassId} {r : vw_C} {vs : List Value} {f : Nat → Option Nat} {w' : va_W} (hK : va_K D cl tys s) (hD : va_D A w) (t0 : Nat) (he : w[q0]? = some (a, .inl (cA, len, .inr (.inr (.inr (.inr f)))))) (ht : tys[t0]? = some (cA, .object r.1)) (hv : w[qk]? = some (v, .inr (ci, vs))) (hc : cl[ci]? = some r) (hj : j < len) (hlen : len < 2 ^ 31) (hd : decode cc pc = .ok (.aastore, 1)) (hw : w.set q0 (a, .inl (cA, len, .inr (.inr (.inr (.inr (va_up f j (some v))))))) = w')
    (kk : va_D A w' → G p l e R s m args below meth c D cl A k n Q w' L (pc + 1) st) : G p l e R s m args below meth c D cl A k n Q w L pc (.ref v :: .int (nI j) :: .ref a :: st) :=
  fun H locs ls hP hS hl => va_astq hx hb hK hP hD hS q0 t0 qk ci he ht hv hc (q_in hj hlen) hd (fun H1 locs1 hP1 hD1 hS1 => by
    rw [nI_clamp (Nat.lt_trans hj hlen), hw] at hP1 hD1
    exact kk hD1 H1 locs1 ls hP1 hS1 hl)
theorem g_wd {w' : va_W} (h : w = w') (hD : va_D A w) (kk : va_D A w' → G p l e R s m args below meth c D cl A k n Q w' L pc st) : G p l e R s m args below meth c D cl A k n Q w L pc st := by
  subst h
  exact kk hD
theorem g_widen {k' n' : Nat} (h1 : k ≤ k') (h2 : n ≤ n') (kk : G p l e R s m args below meth c D cl A k' n' Q w L pc st) : G p l e R s m args below meth c D cl A k n Q w L pc st :=
  fun H locs ls hP hS hl => W.widen h1 h2 (kk H locs ls hP hS hl)
/-- a constructor's contract -/
def CTn (l : Launch) (y : MethodName) (ws : List Cond) (rm : Room) (K : State → Prop) (D : va_G) (cl : List vw_C) (q : Nat) (x0 : va_E) (blk : (Nat → Nat) → va_W) (mc ms : Nat) : Prop := ∀ sz : Nat,
  Met l y ws rm (va_Pc [.ref q] (fun U => U.heap.size = sz ∧ va_P D cl [(q, x0)] U.heap ∧ K U)) (va_Qv (fun _ : Nat → Nat => True) (fun a t => va_P D cl (blk a) t.heap ∧ va_D (va_A [(q, x0)] sz) (blk a)) (va_A [(q, x0)] sz)) mc ms (va_A [(q, x0)] sz)
theorem ct_n {y : MethodName} {ws ws' : List Cond} {rm : Room} {K : State → Prop} {q : Nat} {x0 : va_E} {blk : (Nat → Nat) → va_W} {mc ms maxL : Nat} (hy : plainName y.cls = true) (hw : ws = Cond.code y cc maxL none :: ws') (hlen : 1 ≤ maxL)
    (body : ∀ (p : Program) (e : Env) (s : State) (m : MethodId) (below : List Frame) (meth : Method) (c : Code), p.tables.exec = Jvm.exec → c.code = cc → meth.sig.returnType = none → (∀ w ∈ ws, w.before #[Value.ref q] s = true) → s.vm.findClass y.cls = some m.cls → meth.locks = false → c.maxLocals = maxL → K s → meth.name = y.name → (∀ z, s.heap.size ≤ z → va_A [(q, x0)] s.heap.size z) → va_D (va_A [(q, x0)] s.heap.size) [(q, x0)] →
      G p l e rm s m #[Value.ref q] below meth c D cl (va_A [(q, x0)] s.heap.size) 0 0 (MQ below (va_Qv (fun _ : Nat → Nat => True) (fun a t => va_P D cl (blk a) t.heap ∧ va_D (va_A [(q, x0)] s.heap.size) (blk a)) (va_A [(q, x0)] s.heap.size)) #[Value.ref q] s mc ms (va_A [(q, x0)] s.heap.size)) [(q, x0)] (some (.ref q) :: List.replicate (maxL - 1) none) 0 []) : CTn l y ws rm K D cl q x0 blk mc ms := by
  intro sz
  refine Met.ofW (cc := cc) (maxL := maxL) (ret := none) hy hw ?_
  intro p e s m args below meth c s₁ B hml hv
  obtain ⟨rfl, hsz, hP, hK⟩ := hv
  subst hsz
  rw [lg_entry_eq]
  have hD : va_D (va_A [(q, x0)] s.heap.size) [(q, x0)] := by
    refine ⟨fun i j x y hi hj _ => ?_, fun i x hi => va_A.in hi⟩
    have h1 := (List.getElem?_eq_some_iff.mp hi).1
    have h2 := (List.getElem?_eq_some_iff.mp hj).1
    simp at h1 h2
    omega
  exact body p e s m below meth c B.exec B.bytes B.returns (atoms_spec (ws := ws) B.pre) (findClass_of_methodNamed B.named) B.notSynchronized hml hK (name_of_methodNamed B.named B.method).1 (fun z h => Or.inr h) hD s.heap [] _ hP va_S.rf (lq_entry [.ref q] (fun v hv => by simp at hv; rw [hv]; rfl) maxL hlen)
theorem g_nret {blk : (Nat → Nat) → va_W} {A1 : Nat → Prop} (hx : p.tables.exec = Jvm.exec) (hb : c.code = cc) (hr : meth.sig.returnType = none) (hlk : meth.locks = false) (hd : decode cc pc = .ok (.return_, 1)) (a : Nat → Nat) (hw : w = blk a) (hD : va_D A w) : G p l e R s m args below meth c D cl A k n (MQ below (va_Qv (fun _ : Nat → Nat => True) (fun a t => va_P D cl (blk a) t.heap ∧ va_D A (blk a)) A) args s k n A) w L pc [] := by
  subst hw
  exact fun H locs ls hP hS hl => W.vret hx hb hr (fun t ht hW => ⟨⟨a, rfl, trivial, (show va_P D cl (blk a) t.heap by rw [ht]; exact hP), hD⟩, hS.F ht⟩) hS.2.2 hd hlk
theorem g_callI {y : MethodName} {bytes : ByteArray} {ws Ts : List Cond} {rm : Room} {K : State → Prop} {own host : String} {q idx maxL mc ms : Nat} {x0 : va_E} {wr : va_W} {blk : (Nat → Nat) → va_W} (S : CallFix p m c cc L.length s args Ts own) (hM : CTn l y ws rm K D cl q x0 blk mc ms)
    (cw : (CallB R s args own idx y bytes maxL none ws rm mc ms 0 ∧ y.name = "<init>" ∧ (Cond.instanceMethod y).before args s = true) ∨ (va_CN R s args own idx y host bytes maxL none ws rm mc ms 0 ∧ y.name = "<init>" ∧ (Cond.instanceMethod y).before args s = true)) (hKo : K_ok K) (hK : K s) (hD : va_D A (wr ++ [(q, x0)])) (hA : ∀ z, s.heap.size ≤ z → A z) (hroom : (st.map fun v => v.category).sum ≤ 8) (hf : k + mc ≤ R.cells ∧ n + ms ≤ R.slots) (hd : decode cc pc = .ok (.invokespecial idx, 3))
    (kk : ∀ a : Nat → Nat, va_D A (wr ++ blk a) → G p l e R s m args below meth c D cl A (k + mc) (n + ms) Q (wr ++ blk a) L (pc + 3) st) : G p l e R s m args below meth c D cl A k n Q (wr ++ [(q, x0)]) L pc (.ref q :: st) := by
  intro H locs ls hP hS hl
  have hlast : (wr ++ [(q, x0)])[wr.length]? = some (q, x0) := by simp
  have hFc : ∀ z, va_A [(q, x0)] H.size z → A z := va_free (wc := [(q, x0)]) hD hS hA [wr.length] (by simp)
  have hPc : va_P D cl [(q, x0)] H := hP.sub [wr.length] (by simp)
  have pre : PreS s H (va_Pc [.ref q] (fun U => U.heap.size = H.size ∧ va_P D cl [(q, x0)] U.heap ∧ K U)) [.ref q] := ⟨fun a U g mk z => ⟨z.1, z.2.1, z.2.2.1, hKo.1 a U g mk z.2.2.2⟩, fun U hU hW => ⟨rfl, by rw [hU], by rw [hU]; exact hPc, hKo.2 s U hW hK⟩⟩
  have hrun : va_Run p l e R s m args below meth c H locs k n mc ms (F0 m pc ls (.ref q :: st)) st (va_Qv (fun _ : Nat → Nat => True) (fun a t => va_P D cl (blk a) t.heap ∧ va_D (va_A [(q, x0)] H.size) (blk a)) (va_A [(q, x0)] H.size) #[.ref q]) (va_A [(q, x0)] H.size) := by
    rcases cw with cw | cw
    · exact va_runI (As := []) (rest := st) S (hM H.size) cw pre rfl rfl hl.1 rfl (lv_room hroom) hd hf
    · exact va_runIN (As := []) (rest := st) S (hM H.size) cw pre rfl rfl hl.1 rfl (lv_room hroom) hd hf
  refine va_callv hrun hS (fun z _ h => hFc z h) hFc (fun u t H1 locs1 ht hvm _ hB hz hk1 hS1 => ?_)
  obtain ⟨hP1, hD1⟩ := hB
  rw [ht] at hP1
  obtain ⟨hP2, hD2⟩ := join1 hP hD hFc hk1 hP1 hD1
  exact kk u hD2 H1 locs1 ls hP2 hS1 hl
end AL
end
section
abbrev F_PS : List Value := [.int (nI 0), .int (nI 0), .int (nI 0), .int (nI 0), .int (nI 0), .int (nI 0), .int (nI 0), .int (nI 0), .int (nI 0), .null, .null, .null, .null, .null, .null, .null]
abbrev F_LN : List Value := [.null, .int (nI 0), .int (nI 0)]
abbrev F_GV : List Value := [.null, .null, .null, .null, .int (nI 0)]
abbrev F_MD : List Value := [.null, .null, .null, .null, .null, .null, .null, .null, .null, .null, .int (nI 0), .null, .null, .null, .null, .null, .null, .null, .null, .null, .null, .null, .int (nI 0)]
/-- an array of noughts -/
abbrev za (ct : Nat → ClassId) (t len : Nat) : va_E := .inl (ct t, len, .inl (fun _ => nI 0))
def PSB (ct : Nat → ClassId) (z : Nat) (a : Nat → Nat) : va_W := [(z, .inr (1, [.int (nI 0), .int (nI 0), .int (nI 0), .int (nI 0), .int (nI 0), .int (nI 0), .int (nI 0), .int (nI 0), .int (nI 0), .ref (a 1), .ref (a 2), .ref (a 3), .ref (a 4), .ref (a 5), .ref (a 6), .ref (a 7)])), (a 1, za ct 0 64), (a 2, za ct 0 4), (a 3, za ct 0 64), (a 4, za ct 0 64), (a 5, za ct 0 16), (a 6, za ct 0 16), (a 7, za ct 0 4)]
def LNB (ct : Nat → ClassId) (z : Nat) (a : Nat → Nat) : va_W := [(z, .inr (2, [.ref (a 1), .int (nI 0), .int (nI 0)])), (a 1, za ct 0 75)]
def MDB (ct : Nat → ClassId) (z : Nat) (a : Nat → Nat) : va_W := (List.range 22).map (fun c => (if c = 0 then z else a c, kd (fun c' => a (c' - 69)) ct (69 + c) (fun _ => 0)))
def kn (np nl : Nat) (ad : Nat → Nat) (ct : Nat → ClassId) (c : Nat) : va_E :=
  if c = 1 then .inl (ct 2, 4, .inr (.inr (.inr (.inr (fun i => if i < np then some (ad (5 + 8 * i)) else none)))))
  else if c = 2 then .inl (ct 3, 16, .inr (.inr (.inr (.inr (fun i => if i < nl then some (ad (37 + 2 * i)) else none)))))
  else kd ad ct c (fun _ => 0)
def gwn (N np nl : Nat) (ad : Nat → Nat) (ct : Nat → ClassId) : va_W := (List.range N).map (fun c => (ad c, kn np nl ad ct c))
def GVB (ct : Nat → ClassId) (z : Nat) (a : Nat → Nat) : va_W := gwn 69 4 16 (fun c => if c = 0 then z else a c) ct
def adx (N : Nat) (ad : Nat → Nat) (z : Nat) (a : Nat → Nat) : Nat → Nat := fun c => if c < N then ad c else if c = N then z else a (c - N)
theorem gwn_at {N np nl c : Nat} {ad : Nat → Nat} {ct : Nat → ClassId} (h : c < N) : (gwn N np nl ad ct)[c]? = some (ad c, kn np nl ad ct c) := by simp [gwn, h]
theorem gwn_len {N np nl : Nat} {ad : Nat → Nat} {ct : Nat → ClassId} : (gwn N np nl ad ct).length = N := by simp [gwn]
theorem kd_congr {ad ad' : Nat → Nat} {ct : Nat → ClassId} {c N : Nat} {g : Nat → Nat} (h : ∀ i, i < N → ad i = ad' i) (hN : (∃ p, p ≤ 4 ∧ N = 5 + 8 * p) ∨ (∃ i, i ≤ 16 ∧ N = 37 + 2 * i)) (hc : c < N) (h1 : c ≠ 1) (h2 : c ≠ 2) : kd ad ct c g = kd ad' ct c g := by
  have h5 : 5 ≤ N := by rcases hN with ⟨p, _, e⟩ | ⟨i, _, e⟩ <;> omega
  by_cases e0 : c = 0
  · subst e0
    show kd ad ct 0 g = kd ad' ct 0 g
    unfold kd
    rw [if_pos rfl, if_pos rfl, h 1 (by omega), h 2 (by omega), h 3 (by omega), h 4 (by omega)]
  by_cases e3 : c = 3
  · subst e3; rfl
  by_cases e4 : c = 4
  · subst e4; rfl
  by_cases e37 : c < 37
  · obtain ⟨j, t, hj, ht, e⟩ : ∃ j t, j < 4 ∧ t < 8 ∧ c = 5 + 8 * j + t := ⟨(c - 5) / 8, (c - 5) % 8, by omega, by omega, by omega⟩
    subst e
    by_cases et : t = 0
    · subst et
      have hh : 5 + 8 * j + 7 < N := by rcases hN with ⟨p, _, e⟩ | ⟨i, _, e⟩ <;> omega
      rw [Nat.add_zero, kd_P hj, kd_P hj, h (5 + 8 * j + 1) (by omega), h (5 + 8 * j + 2) (by omega), h (5 + 8 * j + 3) (by omega), h (5 + 8 * j + 4) (by omega), h (5 + 8 * j + 5) (by omega), h (5 + 8 * j + 6) (by omega), h (5 + 8 * j + 7) (by omega)]
    · rw [kd_Pa hj (by omega) ht, kd_Pa hj (by omega) ht]
  · obtain ⟨j, t, hj, ht, e⟩ : ∃ j t, j < 16 ∧ t < 2 ∧ c = 37 + 2 * j + t := ⟨(c - 37) / 2, (c - 37) % 2, by rcases hN with ⟨p, _, e⟩ | ⟨i, _, e⟩ <;> omega, by omega, by omega⟩
    subst e
    by_cases et : t = 0
    · subst et
      have hh : 37 + 2 * j + 1 < N := by rcases hN with ⟨p, _, e⟩ | ⟨i, _, e⟩ <;> omega
      rw [Nat.add_zero, kd_L hj, kd_L hj, h (37 + 2 * j + 1) hh]
    · have : t = 1 := by omega
      subst this
      rw [kd_La hj, kd_La hj]
theorem adx_lt {N : Nat} {ad a : Nat → Nat} {z c : Nat} (h : c < N) : adx N ad z a c = ad c := if_pos h
theorem adx_eq {N : Nat} {ad a : Nat → Nat} {z : Nat} : adx N ad z a N = z := by unfold adx; rw [if_neg (by omega), if_pos rfl]
theorem adx_gt {N : Nat} {ad a : Nat → Nat} {z j : Nat} (h : 0 < j) : adx N ad z a (N + j) = a j := by unfold adx; rw [if_neg (by omega), if_neg (by omega), Nat.add_sub_cancel_left]
theorem PSB_at {ct : Nat → ClassId} {z : Nat} {a ad : Nat → Nat} {p : Nat} (hp : p < 4) : ∀ j, j < 8 → (PSB ct z a)[j]? = some (adx (5 + 8 * p) ad z a (5 + 8 * p + j), kd (adx (5 + 8 * p) ad z a) ct (5 + 8 * p + j) (fun _ => 0)) := by
  intro j hj
  by_cases h0 : j = 0
  · subst h0
    rw [Nat.add_zero, adx_eq, kd_P hp, adx_gt (by decide), adx_gt (by decide), adx_gt (by decide), adx_gt (by decide), adx_gt (by decide), adx_gt (by decide), adx_gt (by decide)]
    rfl
  · rw [adx_gt (by omega), kd_Pa hp (by omega) hj]
    match j, hj, h0 with
    | 1, _, _ => rfl
    | 2, _, _ => rfl
    | 3, _, _ => rfl
    | 4, _, _ => rfl
    | 5, _, _ => rfl
    | 6, _, _ => rfl
    | 7, _, _ => rfl
theorem LNB_at {ct : Nat → ClassId} {z : Nat} {a ad : Nat → Nat} {i : Nat} (hi : i < 16) : ∀ j, j < 2 → (LNB ct z a)[j]? = some (adx (37 + 2 * i) ad z a (37 + 2 * i + j), kd (adx (37 + 2 * i) ad z a) ct (37 + 2 * i + j) (fun _ => 0)) := by
  intro j hj
  by_cases h0 : j = 0
  · subst h0
    rw [Nat.add_zero, adx_eq, kd_L hi, adx_gt (by decide)]
    rfl
  · have h1 : j = 1 := by omega
    subst h1
    rw [adx_gt (by decide), kd_La hi]
    rfl
theorem kn_ne {np nl c : Nat} {ad : Nat → Nat} {ct : Nat → ClassId} (h1 : c ≠ 1) (h2 : c ≠ 2) : kn np nl ad ct c = kd ad ct c (fun _ => 0) := by unfold kn; rw [if_neg h1, if_neg h2]
theorem extP {ct : Nat → ClassId} {z p : Nat} {a ad : Nat → Nat} (hp : p < 4) : (gwn (5 + 8 * p) p 0 ad ct ++ PSB ct z a).set 1 (ad 1, .inl (ct 2, 4, .inr (.inr (.inr (.inr (va_up (fun i => if i < p then some (ad (5 + 8 * i)) else none) p (some z))))))) = gwn (5 + 8 * (p + 1)) (p + 1) 0 (adx (5 + 8 * p) ad z a) ct := by
  have hl : (gwn (5 + 8 * p) p 0 ad ct ++ PSB ct z a).length = 5 + 8 * (p + 1) := by rw [List.length_append, gwn_len]; show 5 + 8 * p + 8 = _; omega
  apply List.ext_getElem?
  intro i
  by_cases hi : i < 5 + 8 * (p + 1)
  · rw [gwn_at hi]
    by_cases h1 : i = 1
    · subst h1
      rw [List.getElem?_set_self (by omega), adx_lt (by omega)]
      unfold kn
      rw [if_pos rfl]
      congr 9
      funext j
      by_cases hj : j = p
      · subst hj
        rw [va_up_self, if_pos (by omega), adx_eq]
      · rw [va_up_ne _ _ hj]
        by_cases hj2 : j < p
        · rw [if_pos hj2, if_pos (by omega), adx_lt (by omega)]
        · rw [if_neg hj2, if_neg (by omega)]
    · rw [List.getElem?_set_ne (fun e => h1 e.symm)]
      by_cases hn : i < 5 + 8 * p
      · rw [List.getElem?_append_left (by rw [gwn_len]; exact hn), gwn_at hn, adx_lt hn]
        by_cases h2 : i = 2
        · subst h2; rfl
        · rw [kn_ne h1 h2, kn_ne h1 h2, kd_congr (N := 5 + 8 * p) (ad' := adx (5 + 8 * p) ad z a) (fun j hj => (adx_lt hj).symm) (Or.inl ⟨p, by omega, rfl⟩) hn h1 h2]
      · obtain ⟨j, hj⟩ : ∃ j, i = 5 + 8 * p + j := ⟨i - (5 + 8 * p), by omega⟩
        subst hj
        rw [List.getElem?_append_right (by rw [gwn_len]; omega), gwn_len, Nat.add_sub_cancel_left, PSB_at (ad := ad) hp j (by omega), kn_ne (by omega) (by omega)]
  · rw [List.getElem?_eq_none (by rw [List.length_set, hl]; omega), List.getElem?_eq_none (by rw [gwn_len]; omega)]
theorem extL {ct : Nat → ClassId} {z p : Nat} {a ad : Nat → Nat} (hp : p < 16) : (gwn (37 + 2 * p) 4 p ad ct ++ LNB ct z a).set 2 (ad 2, .inl (ct 3, 16, .inr (.inr (.inr (.inr (va_up (fun i => if i < p then some (ad (37 + 2 * i)) else none) p (some z))))))) = gwn (37 + 2 * (p + 1)) 4 (p + 1) (adx (37 + 2 * p) ad z a) ct := by
  have hl : (gwn (37 + 2 * p) 4 p ad ct ++ LNB ct z a).length = 37 + 2 * (p + 1) := by rw [List.length_append, gwn_len]; show 37 + 2 * p + 2 = _; omega
  apply List.ext_getElem?
  intro i
  by_cases hi : i < 37 + 2 * (p + 1)
  · rw [gwn_at hi]
    by_cases h2 : i = 2
    · subst h2
      rw [List.getElem?_set_self (by omega), adx_lt (by omega)]
      unfold kn
      rw [if_neg (by decide), if_pos rfl]
      congr 9
      funext j
      by_cases hj : j = p
      · subst hj
        rw [va_up_self, if_pos (by omega), adx_eq]
      · rw [va_up_ne _ _ hj]
        by_cases hj2 : j < p
        · rw [if_pos hj2, if_pos (by omega), adx_lt (by omega)]
        · rw [if_neg hj2, if_neg (by omega)]
    · rw [List.getElem?_set_ne (fun e => h2 e.symm)]
      by_cases hn : i < 37 + 2 * p
      · rw [List.getElem?_append_left (by rw [gwn_len]; exact hn), gwn_at hn, adx_lt hn]
        by_cases h1 : i = 1
        · subst h1
          unfold kn
          rw [if_pos rfl, if_pos rfl]
          congr 9
          funext j
          by_cases hj : j < 4
          · rw [if_pos hj, if_pos hj, adx_lt (by omega)]
          · rw [if_neg hj, if_neg hj]
        · rw [kn_ne h1 h2, kn_ne h1 h2, kd_congr (N := 37 + 2 * p) (ad' := adx (37 + 2 * p) ad z a) (fun j hj => (adx_lt hj).symm) (Or.inr ⟨p, by omega, rfl⟩) hn h1 h2]
      · obtain ⟨j, hj⟩ : ∃ j, i = 37 + 2 * p + j := ⟨i - (37 + 2 * p), by omega⟩
        subst hj
        rw [List.getElem?_append_right (by rw [gwn_len]; omega), gwn_len, Nat.add_sub_cancel_left, LNB_at (ad := ad) hp j (by omega), kn_ne (by omega) (by omega)]
  · rw [List.getElem?_eq_none (by rw [List.length_set, hl]; omega), List.getElem?_eq_none (by rw [gwn_len]; omega)]
/-- what GroupViews() needs of the tables beside gK -/
def gK2 (D : va_G) (ct : Nat → ClassId) (U : State) : Prop := gK D ct U ∧ va_AO "GroupViews$ProcessState" U ∧ va_AO "GroupViews$Line" U
theorem gK2_ok (D : va_G) (ct : Nat → ClassId) : K_ok (gK2 D ct) :=
  ⟨fun a U g mk h => ⟨(gK_ok D ct).1 a U g mk h.1, va_AO.moved (Vm.Alike.refl U.vm) h.2.1, va_AO.moved (Vm.Alike.refl U.vm) h.2.2⟩, fun s U hW h => ⟨(gK_ok D ct).2 s U hW h.1, h.2.1.moved hW.alike, h.2.2.moved hW.alike⟩⟩
theorem mk_I {s : State} {args : Array Value} {R rm : Room} {own : String} {idx maxL mc ms : Nat} {y : MethodName} {bytes : ByteArray} {cx : Cond} (hts : ∀ w ∈ cx :: tblG, w.before args s = true) (m1 : Cond.methodLink own idx y ∈ tblG) (m2 : Cond.instanceMethod y ∈ tblG) (m3 : Cond.initialized y.cls ∈ tblG) (m4 : Cond.code y bytes maxL none ∈ tblG) (hrc : rm.cells = mc) (hrs : rm.slots = ms) (hy1 : y.name = "<init>")
    (hd : y.cls ≠ "java/lang/invoke/MethodHandle" ∧ y.cls ≠ "java/lang/invoke/VarHandle" ∧ (parseMethodDescriptor y.desc).map (fun d => d.parameters.length) = some 0) (hR : rm.frames + 1 ≤ R.frames ∧ 8 + (maxL + 11) + rm.locals ≤ R.locals) :
    CallB R s args own idx y bytes maxL none (mw y bytes maxL none) rm mc ms 0 ∧ y.name = "<init>" ∧ (Cond.instanceMethod y).before args s = true :=
  ⟨callB_of 0 hts (good_mw m4) rfl hrc hrs (hts _ (List.mem_cons_of_mem _ m3)) (hts _ (List.mem_cons_of_mem _ m1)) hd hR, hy1, hts _ (List.mem_cons_of_mem _ m2)⟩
theorem mk_IN {s : State} {args : Array Value} {R rm : Room} {own host : String} {idx maxL mc ms : Nat} {y : MethodName} {bytes : ByteArray} {cx : Cond} {D : va_G} {ct : Nat → ClassId} (hK : gK D ct s) (hts : ∀ w ∈ cx :: tblG, w.before args s = true) (m1 : Cond.methodLinkNest own idx y host ∈ tblN) (m2 : Cond.instanceMethod y ∈ tblG) (m3 : Cond.initialized y.cls ∈ tblG) (m4 : Cond.code y bytes maxL none ∈ tblG) (hrc : rm.cells = mc) (hrs : rm.slots = ms) (hy1 : y.name = "<init>")
    (hd : y.cls ≠ "java/lang/invoke/MethodHandle" ∧ y.cls ≠ "java/lang/invoke/VarHandle" ∧ (parseMethodDescriptor y.desc).map (fun d => d.parameters.length) = some 0) (hR : rm.frames + 1 ≤ R.frames ∧ 8 + (maxL + 11) + rm.locals ≤ R.locals) :
    va_CN R s args own idx y host bytes maxL none (mw y bytes maxL none) rm mc ms 0 ∧ y.name = "<init>" ∧ (Cond.instanceMethod y).before args s = true :=
  ⟨va_cnB 0 hts (good_mw m4) rfl hrc hrs (hK.2 _ m1) (hts _ (List.mem_cons_of_mem _ m3)) hd hR, hy1, hts _ (List.mem_cons_of_mem _ m2)⟩
theorem ha_i (N' : Nat) : ∀ cB : ClassId, vp_cell cB (N', .inl (fun _ => nI 0)) = arrV cB N' (fun _ => defaultValue .int) := fun cB => by
  rw [vp_cell_i, show nI 0 = 0 by decide +kernel]
  rfl
theorem ha_z (N' : Nat) : ∀ cB : ClassId, vp_cell cB (N', .inl (fun _ => nI 0)) = arrV cB N' (fun _ => defaultValue .boolean) := fun cB => by
  rw [vp_cell_i, show nI 0 = 0 by decide +kernel]
  rfl
theorem hby_i {N' : Nat} (h : N' ≤ 100000) : N' * componentBytes .int ≤ 536870912 := by
  have e : componentBytes .int = 4 := rfl
  rw [e]
  omega
theorem hby_z {N' : Nat} (h : N' ≤ 100000) : N' * componentBytes .boolean ≤ 536870912 := by
  have e : componentBytes .boolean = 1 := rfl
  rw [e]
  omega
end
section
set_option maxRecDepth 100000 in
set_option maxHeartbeats 4000000 in
theorem ct_PS_init (l : Launch) (D : va_G) (ct : Nat → ClassId) (q : Nat) : CTn l y_PS_init (mw y_PS_init c_PS_init 1 none) { frames := 1, cells := 7, slots := 232, locals := 20 } (gK D ct) D vcl q (.inr (1, F_PS)) (fun a => PSB ct q a) 7 232 := by
  refine ct_n (by decide) rfl (by decide) ?_
  intro pg en sx mx blw mth cdx hx hb hr hts hown hlk hml hK hnm hA hD
  refine g_L (L' := [_]) rfl ?_
  refine g_aload_n hx hb d_PS_init_0 rfl rfl ?_
  refine g_obj hx hb hown (hts _ (List.mem_cons_of_mem _ t_23)) (hts _ (List.mem_cons_of_mem _ t_13)) (hts _ (List.mem_cons_of_mem _ t_14)) (hml.trans rfl) d_PS_init_1 (Nat.le_of_ble_eq_true rfl) (Nat.le_of_ble_eq_true rfl) ?_
  refine g_aload_n hx hb d_PS_init_4 rfl rfl ?_
  refine g_bipush hx hb d_PS_init_5 k_bipush_64 ?_
  refine g_newa (atype := .int) (ty := .int) (a0 := (64, .inl (fun _ => nI 0))) hx hb (hts _ (List.mem_cons_of_mem _ t_83)) rfl hK.1 0 rfl hD hA (ha_i 64) (by decide) (hby_i (by decide)) (Nat.le_of_ble_eq_true rfl) (Nat.le_of_ble_eq_true rfl) d_PS_init_7 (fun q1 hD => ?_)
  refine g_wd (w' := [(q, .inr (1, [.int (nI 0), .int (nI 0), .int (nI 0), .int (nI 0), .int (nI 0), .int (nI 0), .int (nI 0), .int (nI 0), .int (nI 0), .null, .null, .null, .null, .null, .null, .null])), (q1, za ct 0 64)]) rfl hD (fun hD => ?_)
  refine g_putF (q0 := 0) (ty := .array .int) (w' := [(q, .inr (1, [.int (nI 0), .int (nI 0), .int (nI 0), .int (nI 0), .int (nI 0), .int (nI 0), .int (nI 0), .int (nI 0), .int (nI 0), .ref q1, .null, .null, .null, .null, .null, .null])), (q1, za ct 0 64)]) hx hb hts (in_mw in_PS) ty_PS tyo_PS nm_PS hown hK.1 hD rfl rfl 9 (by decide) (hts _ (List.mem_cons_of_mem _ t_38)) rfl hnm rfl (by decide +kernel) rfl rfl (Nat.le_of_ble_eq_true rfl) d_PS_init_9 rfl (fun hD => ?_)
  refine g_aload_n hx hb d_PS_init_12 rfl rfl ?_
  refine g_iconst hx hb d_PS_init_13 k_iconst_4 ?_
  refine g_newa (atype := .int) (ty := .int) (a0 := (4, .inl (fun _ => nI 0))) hx hb (hts _ (List.mem_cons_of_mem _ t_83)) rfl hK.1 0 rfl hD hA (ha_i 4) (by decide) (hby_i (by decide)) (Nat.le_of_ble_eq_true rfl) (Nat.le_of_ble_eq_true rfl) d_PS_init_14 (fun q2 hD => ?_)
  refine g_wd (w' := [(q, .inr (1, [.int (nI 0), .int (nI 0), .int (nI 0), .int (nI 0), .int (nI 0), .int (nI 0), .int (nI 0), .int (nI 0), .int (nI 0), .ref q1, .null, .null, .null, .null, .null, .null])), (q1, za ct 0 64), (q2, za ct 0 4)]) rfl hD (fun hD => ?_)
  refine g_putF (q0 := 0) (ty := .array .int) (w' := [(q, .inr (1, [.int (nI 0), .int (nI 0), .int (nI 0), .int (nI 0), .int (nI 0), .int (nI 0), .int (nI 0), .int (nI 0), .int (nI 0), .ref q1, .ref q2, .null, .null, .null, .null, .null])), (q1, za ct 0 64), (q2, za ct 0 4)]) hx hb hts (in_mw in_PS) ty_PS tyo_PS nm_PS hown hK.1 hD rfl rfl 10 (by decide) (hts _ (List.mem_cons_of_mem _ t_39)) rfl hnm rfl (by decide +kernel) rfl rfl (Nat.le_of_ble_eq_true rfl) d_PS_init_16 rfl (fun hD => ?_)
  refine g_aload_n hx hb d_PS_init_19 rfl rfl ?_
  refine g_bipush hx hb d_PS_init_20 k_bipush_64 ?_
  refine g_newa (atype := .int) (ty := .int) (a0 := (64, .inl (fun _ => nI 0))) hx hb (hts _ (List.mem_cons_of_mem _ t_83)) rfl hK.1 0 rfl hD hA (ha_i 64) (by decide) (hby_i (by decide)) (Nat.le_of_ble_eq_true rfl) (Nat.le_of_ble_eq_true rfl) d_PS_init_22 (fun q3 hD => ?_)
  refine g_wd (w' := [(q, .inr (1, [.int (nI 0), .int (nI 0), .int (nI 0), .int (nI 0), .int (nI 0), .int (nI 0), .int (nI 0), .int (nI 0), .int (nI 0), .ref q1, .ref q2, .null, .null, .null, .null, .null])), (q1, za ct 0 64), (q2, za ct 0 4), (q3, za ct 0 64)]) rfl hD (fun hD => ?_)
  refine g_putF (q0 := 0) (ty := .array .int) (w' := [(q, .inr (1, [.int (nI 0), .int (nI 0), .int (nI 0), .int (nI 0), .int (nI 0), .int (nI 0), .int (nI 0), .int (nI 0), .int (nI 0), .ref q1, .ref q2, .ref q3, .null, .null, .null, .null])), (q1, za ct 0 64), (q2, za ct 0 4), (q3, za ct 0 64)]) hx hb hts (in_mw in_PS) ty_PS tyo_PS nm_PS hown hK.1 hD rfl rfl 11 (by decide) (hts _ (List.mem_cons_of_mem _ t_40)) rfl hnm rfl (by decide +kernel) rfl rfl (Nat.le_of_ble_eq_true rfl) d_PS_init_24 rfl (fun hD => ?_)
  refine g_aload_n hx hb d_PS_init_27 rfl rfl ?_
  refine g_bipush hx hb d_PS_init_28 k_bipush_64 ?_
  refine g_newa (atype := .int) (ty := .int) (a0 := (64, .inl (fun _ => nI 0))) hx hb (hts _ (List.mem_cons_of_mem _ t_83)) rfl hK.1 0 rfl hD hA (ha_i 64) (by decide) (hby_i (by decide)) (Nat.le_of_ble_eq_true rfl) (Nat.le_of_ble_eq_true rfl) d_PS_init_30 (fun q4 hD => ?_)
  refine g_wd (w' := [(q, .inr (1, [.int (nI 0), .int (nI 0), .int (nI 0), .int (nI 0), .int (nI 0), .int (nI 0), .int (nI 0), .int (nI 0), .int (nI 0), .ref q1, .ref q2, .ref q3, .null, .null, .null, .null])), (q1, za ct 0 64), (q2, za ct 0 4), (q3, za ct 0 64), (q4, za ct 0 64)]) rfl hD (fun hD => ?_)
  refine g_putF (q0 := 0) (ty := .array .int) (w' := [(q, .inr (1, [.int (nI 0), .int (nI 0), .int (nI 0), .int (nI 0), .int (nI 0), .int (nI 0), .int (nI 0), .int (nI 0), .int (nI 0), .ref q1, .ref q2, .ref q3, .ref q4, .null, .null, .null])), (q1, za ct 0 64), (q2, za ct 0 4), (q3, za ct 0 64), (q4, za ct 0 64)]) hx hb hts (in_mw in_PS) ty_PS tyo_PS nm_PS hown hK.1 hD rfl rfl 12 (by decide) (hts _ (List.mem_cons_of_mem _ t_42)) rfl hnm rfl (by decide +kernel) rfl rfl (Nat.le_of_ble_eq_true rfl) d_PS_init_32 rfl (fun hD => ?_)
  refine g_aload_n hx hb d_PS_init_35 rfl rfl ?_
  refine g_bipush hx hb d_PS_init_36 k_bipush_16 ?_
  refine g_newa (atype := .int) (ty := .int) (a0 := (16, .inl (fun _ => nI 0))) hx hb (hts _ (List.mem_cons_of_mem _ t_83)) rfl hK.1 0 rfl hD hA (ha_i 16) (by decide) (hby_i (by decide)) (Nat.le_of_ble_eq_true rfl) (Nat.le_of_ble_eq_true rfl) d_PS_init_38 (fun q5 hD => ?_)
  refine g_wd (w' := [(q, .inr (1, [.int (nI 0), .int (nI 0), .int (nI 0), .int (nI 0), .int (nI 0), .int (nI 0), .int (nI 0), .int (nI 0), .int (nI 0), .ref q1, .ref q2, .ref q3, .ref q4, .null, .null, .null])), (q1, za ct 0 64), (q2, za ct 0 4), (q3, za ct 0 64), (q4, za ct 0 64), (q5, za ct 0 16)]) rfl hD (fun hD => ?_)
  refine g_putF (q0 := 0) (ty := .array .int) (w' := [(q, .inr (1, [.int (nI 0), .int (nI 0), .int (nI 0), .int (nI 0), .int (nI 0), .int (nI 0), .int (nI 0), .int (nI 0), .int (nI 0), .ref q1, .ref q2, .ref q3, .ref q4, .ref q5, .null, .null])), (q1, za ct 0 64), (q2, za ct 0 4), (q3, za ct 0 64), (q4, za ct 0 64), (q5, za ct 0 16)]) hx hb hts (in_mw in_PS) ty_PS tyo_PS nm_PS hown hK.1 hD rfl rfl 13 (by decide) (hts _ (List.mem_cons_of_mem _ t_44)) rfl hnm rfl (by decide +kernel) rfl rfl (Nat.le_of_ble_eq_true rfl) d_PS_init_40 rfl (fun hD => ?_)
  refine g_aload_n hx hb d_PS_init_43 rfl rfl ?_
  refine g_bipush hx hb d_PS_init_44 k_bipush_16 ?_
  refine g_newa (atype := .int) (ty := .int) (a0 := (16, .inl (fun _ => nI 0))) hx hb (hts _ (List.mem_cons_of_mem _ t_83)) rfl hK.1 0 rfl hD hA (ha_i 16) (by decide) (hby_i (by decide)) (Nat.le_of_ble_eq_true rfl) (Nat.le_of_ble_eq_true rfl) d_PS_init_46 (fun q6 hD => ?_)
  refine g_wd (w' := [(q, .inr (1, [.int (nI 0), .int (nI 0), .int (nI 0), .int (nI 0), .int (nI 0), .int (nI 0), .int (nI 0), .int (nI 0), .int (nI 0), .ref q1, .ref q2, .ref q3, .ref q4, .ref q5, .null, .null])), (q1, za ct 0 64), (q2, za ct 0 4), (q3, za ct 0 64), (q4, za ct 0 64), (q5, za ct 0 16), (q6, za ct 0 16)]) rfl hD (fun hD => ?_)
  refine g_putF (q0 := 0) (ty := .array .int) (w' := [(q, .inr (1, [.int (nI 0), .int (nI 0), .int (nI 0), .int (nI 0), .int (nI 0), .int (nI 0), .int (nI 0), .int (nI 0), .int (nI 0), .ref q1, .ref q2, .ref q3, .ref q4, .ref q5, .ref q6, .null])), (q1, za ct 0 64), (q2, za ct 0 4), (q3, za ct 0 64), (q4, za ct 0 64), (q5, za ct 0 16), (q6, za ct 0 16)]) hx hb hts (in_mw in_PS) ty_PS tyo_PS nm_PS hown hK.1 hD rfl rfl 14 (by decide) (hts _ (List.mem_cons_of_mem _ t_46)) rfl hnm rfl (by decide +kernel) rfl rfl (Nat.le_of_ble_eq_true rfl) d_PS_init_48 rfl (fun hD => ?_)
  refine g_aload_n hx hb d_PS_init_51 rfl rfl ?_
  refine g_iconst hx hb d_PS_init_52 k_iconst_4 ?_
  refine g_newa (atype := .int) (ty := .int) (a0 := (4, .inl (fun _ => nI 0))) hx hb (hts _ (List.mem_cons_of_mem _ t_83)) rfl hK.1 0 rfl hD hA (ha_i 4) (by decide) (hby_i (by decide)) (Nat.le_of_ble_eq_true rfl) (Nat.le_of_ble_eq_true rfl) d_PS_init_53 (fun q7 hD => ?_)
  refine g_wd (w' := [(q, .inr (1, [.int (nI 0), .int (nI 0), .int (nI 0), .int (nI 0), .int (nI 0), .int (nI 0), .int (nI 0), .int (nI 0), .int (nI 0), .ref q1, .ref q2, .ref q3, .ref q4, .ref q5, .ref q6, .null])), (q1, za ct 0 64), (q2, za ct 0 4), (q3, za ct 0 64), (q4, za ct 0 64), (q5, za ct 0 16), (q6, za ct 0 16), (q7, za ct 0 4)]) rfl hD (fun hD => ?_)
  refine g_putF (q0 := 0) (ty := .array .int) (w' := [(q, .inr (1, [.int (nI 0), .int (nI 0), .int (nI 0), .int (nI 0), .int (nI 0), .int (nI 0), .int (nI 0), .int (nI 0), .int (nI 0), .ref q1, .ref q2, .ref q3, .ref q4, .ref q5, .ref q6, .ref q7])), (q1, za ct 0 64), (q2, za ct 0 4), (q3, za ct 0 64), (q4, za ct 0 64), (q5, za ct 0 16), (q6, za ct 0 16), (q7, za ct 0 4)]) hx hb hts (in_mw in_PS) ty_PS tyo_PS nm_PS hown hK.1 hD rfl rfl 15 (by decide) (hts _ (List.mem_cons_of_mem _ t_48)) rfl hnm rfl (by decide +kernel) rfl rfl (Nat.le_of_ble_eq_true rfl) d_PS_init_55 rfl (fun hD => ?_)
  exact g_nret (blk := fun a => PSB ct q a) (A1 := fun _ => True) hx hb hr hlk d_PS_init_58 (fun i => [0, q1, q2, q3, q4, q5, q6, q7].getD i 0) rfl hD
set_option maxRecDepth 100000 in
set_option maxHeartbeats 4000000 in
theorem ct_LN_init (l : Launch) (D : va_G) (ct : Nat → ClassId) (q : Nat) : CTn l y_LN_init (mw y_LN_init c_LN_init 1 none) { frames := 1, cells := 1, slots := 75, locals := 20 } (gK D ct) D vcl q (.inr (2, F_LN)) (fun a => LNB ct q a) 1 75 := by
  refine ct_n (by decide) rfl (by decide) ?_
  intro pg en sx mx blw mth cdx hx hb hr hts hown hlk hml hK hnm hA hD
  refine g_L (L' := [_]) rfl ?_
  refine g_aload_n hx hb d_LN_init_0 rfl rfl ?_
  refine g_obj hx hb hown (hts _ (List.mem_cons_of_mem _ t_88)) (hts _ (List.mem_cons_of_mem _ t_13)) (hts _ (List.mem_cons_of_mem _ t_14)) (hml.trans rfl) d_LN_init_1 (Nat.le_of_ble_eq_true rfl) (Nat.le_of_ble_eq_true rfl) ?_
  refine g_aload_n hx hb d_LN_init_4 rfl rfl ?_
  refine g_bipush hx hb d_LN_init_5 k_bipush_75 ?_
  refine g_newa (atype := .int) (ty := .int) (a0 := (75, .inl (fun _ => nI 0))) hx hb (hts _ (List.mem_cons_of_mem _ t_83)) rfl hK.1 0 rfl hD hA (ha_i 75) (by decide) (hby_i (by decide)) (Nat.le_of_ble_eq_true rfl) (Nat.le_of_ble_eq_true rfl) d_LN_init_7 (fun q1 hD => ?_)
  refine g_wd (w' := [(q, .inr (2, [.null, .int (nI 0), .int (nI 0)])), (q1, za ct 0 75)]) rfl hD (fun hD => ?_)
  refine g_putF (q0 := 0) (ty := .array .int) (w' := [(q, .inr (2, [.ref q1, .int (nI 0), .int (nI 0)])), (q1, za ct 0 75)]) hx hb hts (in_mw in_LN) ty_LN tyo_LN nm_LN hown hK.1 hD rfl rfl 0 (by decide) (hts _ (List.mem_cons_of_mem _ t_89)) rfl hnm rfl (by decide +kernel) rfl rfl (Nat.le_of_ble_eq_true rfl) d_LN_init_9 rfl (fun hD => ?_)
  exact g_nret (blk := fun a => LNB ct q a) (A1 := fun _ => True) hx hb hr hlk d_LN_init_12 (fun i => [0, q1].getD i 0) rfl hD
end
section
theorem dv_PS : ∀ j, j < 16 → defaultValue (ty_PS j) = vp_V F_PS j := fun j hj => by
  match j, hj with
  | 0, _ => rfl
  | 1, _ => rfl
  | 2, _ => rfl
  | 3, _ => rfl
  | 4, _ => rfl
  | 5, _ => rfl
  | 6, _ => rfl
  | 7, _ => rfl
  | 8, _ => rfl
  | 9, _ => rfl
  | 10, _ => rfl
  | 11, _ => rfl
  | 12, _ => rfl
  | 13, _ => rfl
  | 14, _ => rfl
  | 15, _ => rfl
  | n + 16, h => exact absurd h (by omega)
theorem dv_LN : ∀ j, j < 3 → defaultValue (ty_LN j) = vp_V F_LN j := fun j hj => by
  match j, hj with
  | 0, _ => rfl
  | 1, _ => rfl
  | 2, _ => rfl
  | n + 3, h => exact absurd h (by omega)
theorem dv_GV : ∀ j, j < 5 → defaultValue (ty_GV j) = vp_V F_GV j := fun j hj => by
  match j, hj with
  | 0, _ => rfl
  | 1, _ => rfl
  | 2, _ => rfl
  | 3, _ => rfl
  | 4, _ => rfl
  | n + 5, h => exact absurd h (by omega)
theorem dv_MD : ∀ j, j < 23 → defaultValue (ty_MD j) = vp_V F_MD j := fun j hj => by
  match j, hj with
  | 0, _ => rfl
  | 1, _ => rfl
  | 2, _ => rfl
  | 3, _ => rfl
  | 4, _ => rfl
  | 5, _ => rfl
  | 6, _ => rfl
  | 7, _ => rfl
  | 8, _ => rfl
  | 9, _ => rfl
  | 10, _ => rfl
  | 11, _ => rfl
  | 12, _ => rfl
  | 13, _ => rfl
  | 14, _ => rfl
  | 15, _ => rfl
  | 16, _ => rfl
  | 17, _ => rfl
  | 18, _ => rfl
  | 19, _ => rfl
  | 20, _ => rfl
  | 21, _ => rfl
  | 22, _ => rfl
  | n + 23, h => exact absurd h (by omega)
set_option maxRecDepth 100000 in
set_option maxHeartbeats 4000000 in
theorem gv_l1 {pg : Program} {l : Launch} {e : Env} {s : State} {m : MethodId} {below : List Frame} {meth : Method} {c : Code} {D : va_G} {ct : Nat → ClassId} {q : Nat} {A : Nat → Prop} {Q : State → Prop} (hx : pg.tables.exec = Jvm.exec) (hb : c.code = c_GV_init) (hts : ∀ w ∈ mw y_GV_init c_GV_init 2 none, w.before #[Value.ref q] s = true) (hown : s.vm.findClass "GroupViews" = some m.cls) (hml : c.maxLocals = 2) (hK : gK D ct s) (hA : ∀ z, s.heap.size ≤ z → A z) (cont : ∀ ad, ad 0 = q → va_D A (gwn (5 + 8 * 4) 4 0 ad ct) → G pg l e { frames := 2, cells := 68, slots := 2340, locals := 40 } s m #[Value.ref q] below meth c D vcl A (4 + 8 * 4) (100 + 248 * 4) Q (gwn (5 + 8 * 4) 4 0 ad ct) [some (.ref q), some (.int (nI 4))] 39 []) : ∀ (k p : Nat) (ad : Nat → Nat), p + k = 4 → ad 0 = q → va_D A (gwn (5 + 8 * p) p 0 ad ct) → G pg l e { frames := 2, cells := 68, slots := 2340, locals := 40 } s m #[Value.ref q] below meth c D vcl A (4 + 8 * p) (100 + 248 * p) Q (gwn (5 + 8 * p) p 0 ad ct) [some (.ref q), some (.int (nI p))] 39 []
  | 0, p, ad, hp, h0, hD => by
    have e : p = 4 := by omega
    subst e
    exact cont ad h0 hD
  | k + 1, p, ad, hp, h0, hD => by
    have hp4 : p < 4 := by omega
    refine g_iload_n hx hb d_GV_init_39 rfl rfl ?_
    refine g_iconst hx hb d_GV_init_40 k_iconst_4 ?_
    refine n_icmp_ge (tgt := 63) hx hb d_GV_init_41 (by decide) (by omega) (by decide) (fun h => absurd h (by omega)) (fun _ => ?_)
    refine g_aload_n hx hb d_GV_init_44 rfl rfl ?_
    refine g_get hx hb hts (in_mw in_GV) hown hK.1 (show (gwn (5 + 8 * p) p 0 ad ct)[0]? = some (q, .inr (0, [.ref (ad 1), .ref (ad 2), .ref (ad 3), .ref (ad 4), .int (nI 0)])) by rw [gwn_at (by omega), h0]; rfl) rfl 0 (by decide) (hts _ (List.mem_cons_of_mem _ t_99)) rfl d_GV_init_45 ?_
    refine g_iload_n hx hb d_GV_init_48 rfl rfl ?_
    refine g_new (ci := 1) (fs := F_PS) hx hb hts (in_mw in_PS) ty_PS tyo_PS hown (hts _ (List.mem_cons_of_mem _ t_15)) (hts _ (List.mem_cons_of_mem _ t_19)) (hts _ (List.mem_cons_of_mem _ t_2)) hK.1 hD hA rfl (fun j hj => dv_PS j hj) (by show (4 + 8 * p) + 1 ≤ 68; omega) (by show (100 + 248 * p) + 16 ≤ 2340; omega) d_GV_init_49 (fun z hD => ?_)
    refine g_dup hx hb d_GV_init_52 rfl ?_
    refine g_callI (host := "GroupViews") ⟨hx, hb, hml.trans rfl, hown, hts⟩ (ct_PS_init l D ct z) (Or.inr (mk_IN hK hts nw_20 t_21 t_2 t_22 rfl rfl rfl (by decide +kernel) ⟨Nat.le_of_ble_eq_true rfl, Nat.le_of_ble_eq_true rfl⟩)) (gK_ok D ct) hK hD hA (Nat.le_of_ble_eq_true rfl) ⟨by show (4 + 8 * p) + 1 + 7 ≤ 68; omega, by show (100 + 248 * p) + 16 + 232 ≤ 2340; omega⟩ d_GV_init_53 (fun a hD => ?_)
    refine g_aast (q0 := 1) (qk := 5 + 8 * p) (ci := 1) (len := 4) (r := ("GroupViews$ProcessState", T_PS, 16)) hx hb hK.1 hD 2 (show _ = some (ad 1, _) from by rw [List.getElem?_append_left (by rw [gwn_len]; omega), gwn_at (by omega)]; rfl) rfl (show _ = some (z, _) from by rw [List.getElem?_append_right (by rw [gwn_len]; omega), gwn_len, Nat.sub_self]; rfl) rfl hp4 (by decide) d_GV_init_56 (extP hp4) (fun hD => ?_)
    refine n_iinc (L' := [_, _]) hx hb d_GV_init_57 rfl rfl ?_
    refine g_goto (tgt := 39) hx hb d_GV_init_60 (by decide) ?_
    refine g_widen (k' := (4 + 8 * (p + 1))) (n' := (100 + 248 * (p + 1))) (by omega) (by omega) ?_
    exact gv_l1 hx hb hts hown hml hK hA cont k (p + 1) _ (by omega) (by rw [adx_lt (by omega)]; exact h0) hD
set_option maxRecDepth 100000 in
set_option maxHeartbeats 4000000 in
theorem gv_l2 {pg : Program} {l : Launch} {e : Env} {s : State} {m : MethodId} {below : List Frame} {meth : Method} {c : Code} {D : va_G} {ct : Nat → ClassId} {q : Nat} {A : Nat → Prop} {Q : State → Prop} (hx : pg.tables.exec = Jvm.exec) (hb : c.code = c_GV_init) (hts : ∀ w ∈ mw y_GV_init c_GV_init 2 none, w.before #[Value.ref q] s = true) (hown : s.vm.findClass "GroupViews" = some m.cls) (hml : c.maxLocals = 2) (hK : gK D ct s) (hA : ∀ z, s.heap.size ≤ z → A z) (cont : ∀ ad, ad 0 = q → va_D A (gwn (37 + 2 * 16) 4 16 ad ct) → G pg l e { frames := 2, cells := 68, slots := 2340, locals := 40 } s m #[Value.ref q] below meth c D vcl A (36 + 2 * 16) (1092 + 78 * 16) Q (gwn (37 + 2 * 16) 4 16 ad ct) [some (.ref q), some (.int (nI 16))] 65 []) : ∀ (k p : Nat) (ad : Nat → Nat), p + k = 16 → ad 0 = q → va_D A (gwn (37 + 2 * p) 4 p ad ct) → G pg l e { frames := 2, cells := 68, slots := 2340, locals := 40 } s m #[Value.ref q] below meth c D vcl A (36 + 2 * p) (1092 + 78 * p) Q (gwn (37 + 2 * p) 4 p ad ct) [some (.ref q), some (.int (nI p))] 65 []
  | 0, p, ad, hp, h0, hD => by
    have e : p = 16 := by omega
    subst e
    exact cont ad h0 hD
  | k + 1, p, ad, hp, h0, hD => by
    have hp4 : p < 16 := by omega
    refine g_iload_n hx hb d_GV_init_65 rfl rfl ?_
    refine g_aload_n hx hb d_GV_init_66 rfl rfl ?_
    refine g_get hx hb hts (in_mw in_GV) hown hK.1 (show (gwn (37 + 2 * p) 4 p ad ct)[0]? = some (q, .inr (0, [.ref (ad 1), .ref (ad 2), .ref (ad 3), .ref (ad 4), .int (nI 0)])) by rw [gwn_at (by omega), h0]; rfl) rfl 1 (by decide) (hts _ (List.mem_cons_of_mem _ t_100)) rfl d_GV_init_67 ?_
    refine g_alen (len := 16) hx hb hK.1 (show (gwn (37 + 2 * p) 4 p ad ct)[2]? = some (ad 2, _) from gwn_at (by omega)) 3 rfl rfl d_GV_init_70 ?_
    refine n_icmp_ge (tgt := 93) hx hb d_GV_init_71 (by decide) (by omega) (by decide) (fun h => absurd h (by omega)) (fun _ => ?_)
    refine g_aload_n hx hb d_GV_init_74 rfl rfl ?_
    refine g_get hx hb hts (in_mw in_GV) hown hK.1 (show (gwn (37 + 2 * p) 4 p ad ct)[0]? = some (q, .inr (0, [.ref (ad 1), .ref (ad 2), .ref (ad 3), .ref (ad 4), .int (nI 0)])) by rw [gwn_at (by omega), h0]; rfl) rfl 1 (by decide) (hts _ (List.mem_cons_of_mem _ t_100)) rfl d_GV_init_75 ?_
    refine g_iload_n hx hb d_GV_init_78 rfl rfl ?_
    refine g_new (ci := 2) (fs := F_LN) hx hb hts (in_mw in_LN) ty_LN tyo_LN hown (hts _ (List.mem_cons_of_mem _ t_17)) (hts _ (List.mem_cons_of_mem _ t_84)) (hts _ (List.mem_cons_of_mem _ t_3)) hK.1 hD hA rfl (fun j hj => dv_LN j hj) (by show (36 + 2 * p) + 1 ≤ 68; omega) (by show (1092 + 78 * p) + 3 ≤ 2340; omega) d_GV_init_79 (fun z hD => ?_)
    refine g_dup hx hb d_GV_init_82 rfl ?_
    refine g_callI (host := "GroupViews") ⟨hx, hb, hml.trans rfl, hown, hts⟩ (ct_LN_init l D ct z) (Or.inr (mk_IN hK hts nw_85 t_86 t_3 t_87 rfl rfl rfl (by decide +kernel) ⟨Nat.le_of_ble_eq_true rfl, Nat.le_of_ble_eq_true rfl⟩)) (gK_ok D ct) hK hD hA (Nat.le_of_ble_eq_true rfl) ⟨by show (36 + 2 * p) + 1 + 1 ≤ 68; omega, by show (1092 + 78 * p) + 3 + 75 ≤ 2340; omega⟩ d_GV_init_83 (fun a hD => ?_)
    refine g_aast (q0 := 2) (qk := 37 + 2 * p) (ci := 2) (len := 16) (r := ("GroupViews$Line", T_LN, 3)) hx hb hK.1 hD 3 (show _ = some (ad 2, _) from by rw [List.getElem?_append_left (by rw [gwn_len]; omega), gwn_at (by omega)]; rfl) rfl (show _ = some (z, _) from by rw [List.getElem?_append_right (by rw [gwn_len]; omega), gwn_len, Nat.sub_self]; rfl) rfl hp4 (by decide) d_GV_init_86 (extL hp4) (fun hD => ?_)
    refine n_iinc (L' := [_, _]) hx hb d_GV_init_87 rfl rfl ?_
    refine g_goto (tgt := 65) hx hb d_GV_init_90 (by decide) ?_
    refine g_widen (k' := (36 + 2 * (p + 1))) (n' := (1092 + 78 * (p + 1))) (by omega) (by omega) ?_
    exact gv_l2 hx hb hts hown hml hK hA cont k (p + 1) _ (by omega) (by rw [adx_lt (by omega)]; exact h0) hD
theorem gv_start (ct : Nat → ClassId) (q q1 q2 q3 q4 : Nat) : ([(q, .inr (0, [.ref q1, .ref q2, .ref q3, .ref q4, .int (nI 0)])), (q1, .inl (ct 2, 4, .inr (.inr (.inr (.inr (fun _ => none)))))), (q2, .inl (ct 3, 16, .inr (.inr (.inr (.inr (fun _ => none)))))), (q3, za ct 0 16), (q4, za ct 0 64)] : va_W) = gwn (5 + 8 * 0) 0 0 (fun i => [q, q1, q2, q3, q4].getD i 0) ct := rfl
theorem gv_end (ct : Nat → ClassId) {q : Nat} (ad : Nat → Nat) (h0 : ad 0 = q) : gwn (37 + 2 * 16) 4 16 ad ct = GVB ct q ad := by
  unfold GVB
  have e : (fun c => if c = 0 then q else ad c) = ad := by
    funext c
    by_cases hc : c = 0
    · rw [if_pos hc, hc, h0]
    · rw [if_neg hc]
  rw [e]
set_option maxRecDepth 100000 in
set_option maxHeartbeats 4000000 in
theorem ct_GV_init (l : Launch) (D : va_G) (ct : Nat → ClassId) (q : Nat) : CTn l y_GV_init (mw y_GV_init c_GV_init 2 none) { frames := 2, cells := 68, slots := 2340, locals := 40 } (gK2 D ct) D vcl q (.inr (0, F_GV)) (fun a => GVB ct q a) 68 2340 := by
  refine ct_n (by decide) rfl (by decide) ?_
  intro pg en sx mx blw mth cdx hx hb hr hts hown hlk hml hK2 hnm hA hD
  have hK := hK2.1
  refine g_L (L' := [_, _]) rfl ?_
  refine g_aload_n hx hb d_GV_init_0 rfl rfl ?_
  refine g_obj hx hb hown (hts _ (List.mem_cons_of_mem _ t_12)) (hts _ (List.mem_cons_of_mem _ t_13)) (hts _ (List.mem_cons_of_mem _ t_14)) (hml.trans rfl) d_GV_init_1 (Nat.le_of_ble_eq_true rfl) (Nat.le_of_ble_eq_true rfl) ?_
  refine g_aload_n hx hb d_GV_init_4 rfl rfl ?_
  refine g_iconst hx hb d_GV_init_5 k_iconst_4 ?_
  refine g_newq hx hb hown (hts _ (List.mem_cons_of_mem _ t_15)) hK2.2.1 hK.1 2 rfl hD hA (by decide) (by decide) (Nat.le_of_ble_eq_true rfl) (Nat.le_of_ble_eq_true rfl) d_GV_init_6 (fun q1 hD => ?_)
  refine g_wd (w' := [(q, .inr (0, [.null, .null, .null, .null, .int (nI 0)])), (q1, .inl (ct 2, 4, .inr (.inr (.inr (.inr (fun _ => none))))))]) rfl hD (fun hD => ?_)
  refine g_putF (q0 := 0) (ty := .array (.object "GroupViews$ProcessState")) (w' := [(q, .inr (0, [.ref q1, .null, .null, .null, .int (nI 0)])), (q1, .inl (ct 2, 4, .inr (.inr (.inr (.inr (fun _ => none))))))]) hx hb hts (in_mw in_GV) ty_GV tyo_GV nm_GV hown hK.1 hD rfl rfl 0 (by decide) (hts _ (List.mem_cons_of_mem _ t_99)) rfl hnm rfl (by decide +kernel) rfl rfl (Nat.le_of_ble_eq_true rfl) d_GV_init_9 rfl (fun hD => ?_)
  refine g_aload_n hx hb d_GV_init_12 rfl rfl ?_
  refine g_bipush hx hb d_GV_init_13 k_bipush_16 ?_
  refine g_newq hx hb hown (hts _ (List.mem_cons_of_mem _ t_17)) hK2.2.2 hK.1 3 rfl hD hA (by decide) (by decide) (Nat.le_of_ble_eq_true rfl) (Nat.le_of_ble_eq_true rfl) d_GV_init_15 (fun q2 hD => ?_)
  refine g_wd (w' := [(q, .inr (0, [.ref q1, .null, .null, .null, .int (nI 0)])), (q1, .inl (ct 2, 4, .inr (.inr (.inr (.inr (fun _ => none)))))), (q2, .inl (ct 3, 16, .inr (.inr (.inr (.inr (fun _ => none))))))]) rfl hD (fun hD => ?_)
  refine g_putF (q0 := 0) (ty := .array (.object "GroupViews$Line")) (w' := [(q, .inr (0, [.ref q1, .ref q2, .null, .null, .int (nI 0)])), (q1, .inl (ct 2, 4, .inr (.inr (.inr (.inr (fun _ => none)))))), (q2, .inl (ct 3, 16, .inr (.inr (.inr (.inr (fun _ => none))))))]) hx hb hts (in_mw in_GV) ty_GV tyo_GV nm_GV hown hK.1 hD rfl rfl 1 (by decide) (hts _ (List.mem_cons_of_mem _ t_100)) rfl hnm rfl (by decide +kernel) rfl rfl (Nat.le_of_ble_eq_true rfl) d_GV_init_18 rfl (fun hD => ?_)
  refine g_aload_n hx hb d_GV_init_21 rfl rfl ?_
  refine g_bipush hx hb d_GV_init_22 k_bipush_16 ?_
  refine g_newa (atype := .int) (ty := .int) (a0 := (16, .inl (fun _ => nI 0))) hx hb (hts _ (List.mem_cons_of_mem _ t_83)) rfl hK.1 0 rfl hD hA (ha_i 16) (by decide) (hby_i (by decide)) (Nat.le_of_ble_eq_true rfl) (Nat.le_of_ble_eq_true rfl) d_GV_init_24 (fun q3 hD => ?_)
  refine g_wd (w' := [(q, .inr (0, [.ref q1, .ref q2, .null, .null, .int (nI 0)])), (q1, .inl (ct 2, 4, .inr (.inr (.inr (.inr (fun _ => none)))))), (q2, .inl (ct 3, 16, .inr (.inr (.inr (.inr (fun _ => none)))))), (q3, za ct 0 16)]) rfl hD (fun hD => ?_)
  refine g_putF (q0 := 0) (ty := .array .int) (w' := [(q, .inr (0, [.ref q1, .ref q2, .ref q3, .null, .int (nI 0)])), (q1, .inl (ct 2, 4, .inr (.inr (.inr (.inr (fun _ => none)))))), (q2, .inl (ct 3, 16, .inr (.inr (.inr (.inr (fun _ => none)))))), (q3, za ct 0 16)]) hx hb hts (in_mw in_GV) ty_GV tyo_GV nm_GV hown hK.1 hD rfl rfl 2 (by decide) (hts _ (List.mem_cons_of_mem _ t_101)) rfl hnm rfl (by decide +kernel) rfl rfl (Nat.le_of_ble_eq_true rfl) d_GV_init_26 rfl (fun hD => ?_)
  refine g_aload_n hx hb d_GV_init_29 rfl rfl ?_
  refine g_bipush hx hb d_GV_init_30 k_bipush_64 ?_
  refine g_newa (atype := .int) (ty := .int) (a0 := (64, .inl (fun _ => nI 0))) hx hb (hts _ (List.mem_cons_of_mem _ t_83)) rfl hK.1 0 rfl hD hA (ha_i 64) (by decide) (hby_i (by decide)) (Nat.le_of_ble_eq_true rfl) (Nat.le_of_ble_eq_true rfl) d_GV_init_32 (fun q4 hD => ?_)
  refine g_wd (w' := [(q, .inr (0, [.ref q1, .ref q2, .ref q3, .null, .int (nI 0)])), (q1, .inl (ct 2, 4, .inr (.inr (.inr (.inr (fun _ => none)))))), (q2, .inl (ct 3, 16, .inr (.inr (.inr (.inr (fun _ => none)))))), (q3, za ct 0 16), (q4, za ct 0 64)]) rfl hD (fun hD => ?_)
  refine g_putF (q0 := 0) (ty := .array .int) (w' := [(q, .inr (0, [.ref q1, .ref q2, .ref q3, .ref q4, .int (nI 0)])), (q1, .inl (ct 2, 4, .inr (.inr (.inr (.inr (fun _ => none)))))), (q2, .inl (ct 3, 16, .inr (.inr (.inr (.inr (fun _ => none)))))), (q3, za ct 0 16), (q4, za ct 0 64)]) hx hb hts (in_mw in_GV) ty_GV tyo_GV nm_GV hown hK.1 hD rfl rfl 3 (by decide) (hts _ (List.mem_cons_of_mem _ t_102)) rfl hnm rfl (by decide +kernel) rfl rfl (Nat.le_of_ble_eq_true rfl) d_GV_init_34 rfl (fun hD => ?_)
  refine g_iconst hx hb d_GV_init_37 k_iconst_0 ?_
  refine g_istore_n (L' := [_, _]) hx hb d_GV_init_38 rfl (Nat.le_of_ble_eq_true rfl) rfl ?_
  refine g_wd (w' := gwn (5 + 8 * 0) 0 0 (fun i => [q, q1, q2, q3, q4].getD i 0) ct) (gv_start ct q q1 q2 q3 q4) hD (fun hD => ?_)
  refine g_widen (k' := (4 + 8 * 0)) (n' := (100 + 248 * 0)) (by decide) (by decide) ?_
  refine gv_l1 hx hb hts hown hml hK hA (fun ad h0 hD => ?_) 4 0 _ rfl rfl hD
  refine g_iload_n hx hb d_GV_init_39 rfl rfl ?_
  refine g_iconst hx hb d_GV_init_40 k_iconst_4 ?_
  refine n_icmp_ge (tgt := 63) hx hb d_GV_init_41 (by decide) (by decide) (by decide) (fun _ => ?_) (fun h => absurd h (by decide))
  refine g_iconst hx hb d_GV_init_63 k_iconst_0 ?_
  refine g_istore_n (L' := [_, _]) hx hb d_GV_init_64 rfl (Nat.le_of_ble_eq_true rfl) rfl ?_
  refine g_wd (w' := gwn (37 + 2 * 0) 4 0 ad ct) rfl hD (fun hD => ?_)
  refine g_widen (k' := (36 + 2 * 0)) (n' := (1092 + 78 * 0)) (by decide) (by decide) ?_
  refine gv_l2 hx hb hts hown hml hK hA (fun ad h0 hD => ?_) 16 0 _ rfl h0 hD
  refine g_iload_n hx hb d_GV_init_65 rfl rfl ?_
  refine g_aload_n hx hb d_GV_init_66 rfl rfl ?_
  refine g_get hx hb hts (in_mw in_GV) hown hK.1 (show (gwn (37 + 2 * 16) 4 16 ad ct)[0]? = some (q, .inr (0, [.ref (ad 1), .ref (ad 2), .ref (ad 3), .ref (ad 4), .int (nI 0)])) by rw [gwn_at (by omega), h0]; rfl) rfl 1 (by decide) (hts _ (List.mem_cons_of_mem _ t_100)) rfl d_GV_init_67 ?_
  refine g_alen (len := 16) hx hb hK.1 (show (gwn (37 + 2 * 16) 4 16 ad ct)[2]? = some (ad 2, _) from gwn_at (by omega)) 3 rfl rfl d_GV_init_70 ?_
  refine n_icmp_ge (tgt := 93) hx hb d_GV_init_71 (by decide) (by decide) (by decide) (fun _ => ?_) (fun h => absurd h (by decide))
  refine g_widen (k' := 68) (n' := 2340) (by decide) (by decide) ?_
  exact g_nret (blk := fun a => GVB ct q a) (A1 := fun _ => True) hx hb hr hlk d_GV_init_93 ad (gv_end ct ad h0) hD
end
section
set_option maxRecDepth 100000 in
set_option maxHeartbeats 4000000 in
theorem ct_MD_init (l : Launch) (D : va_G) (ct : Nat → ClassId) (q : Nat) : CTn l y_MD_init (mw y_MD_init c_MD_init 1 none) { frames := 1, cells := 21, slots := 4324, locals := 20 } (gK D ct) D vcl q (.inr (3, F_MD)) (fun a => MDB ct q a) 21 4324 := by
  refine ct_n (by decide) rfl (by decide) ?_
  intro pg en sx mx blw mth cdx hx hb hr hts hown hlk hml hK hnm hA hD
  refine g_L (L' := [_]) rfl ?_
  refine g_aload_n hx hb d_MD_init_0 rfl rfl ?_
  refine g_obj hx hb hown (hts _ (List.mem_cons_of_mem _ t_314)) (hts _ (List.mem_cons_of_mem _ t_13)) (hts _ (List.mem_cons_of_mem _ t_14)) (hml.trans rfl) d_MD_init_1 (Nat.le_of_ble_eq_true rfl) (Nat.le_of_ble_eq_true rfl) ?_
  refine g_aload_n hx hb d_MD_init_4 rfl rfl ?_
  refine g_iconst hx hb d_MD_init_5 k_iconst_4 ?_
  refine g_newa (atype := .int) (ty := .int) (a0 := (4, .inl (fun _ => nI 0))) hx hb (hts _ (List.mem_cons_of_mem _ t_83)) rfl hK.1 0 rfl hD hA (ha_i 4) (by decide) (hby_i (by decide)) (Nat.le_of_ble_eq_true rfl) (Nat.le_of_ble_eq_true rfl) d_MD_init_6 (fun q1 hD => ?_)
  refine g_wd (w' := [(q, .inr (3, [.null, .null, .null, .null, .null, .null, .null, .null, .null, .null, .int (nI 0), .null, .null, .null, .null, .null, .null, .null, .null, .null, .null, .null, .int (nI 0)])), (q1, za ct 0 4)]) rfl hD (fun hD => ?_)
  refine g_putF (q0 := 0) (ty := .array .int) (w' := [(q, .inr (3, [.ref q1, .null, .null, .null, .null, .null, .null, .null, .null, .null, .int (nI 0), .null, .null, .null, .null, .null, .null, .null, .null, .null, .null, .null, .int (nI 0)])), (q1, za ct 0 4)]) hx hb hts (in_mw in_MD) ty_MD tyo_MD nm_MD hown hK.1 hD rfl rfl 0 (by decide) (hts _ (List.mem_cons_of_mem _ t_315)) rfl hnm rfl (by decide +kernel) rfl rfl (Nat.le_of_ble_eq_true rfl) d_MD_init_8 rfl (fun hD => ?_)
  refine g_aload_n hx hb d_MD_init_11 rfl rfl ?_
  refine g_iconst hx hb d_MD_init_12 k_iconst_4 ?_
  refine g_newa (atype := .int) (ty := .int) (a0 := (4, .inl (fun _ => nI 0))) hx hb (hts _ (List.mem_cons_of_mem _ t_83)) rfl hK.1 0 rfl hD hA (ha_i 4) (by decide) (hby_i (by decide)) (Nat.le_of_ble_eq_true rfl) (Nat.le_of_ble_eq_true rfl) d_MD_init_13 (fun q2 hD => ?_)
  refine g_wd (w' := [(q, .inr (3, [.ref q1, .null, .null, .null, .null, .null, .null, .null, .null, .null, .int (nI 0), .null, .null, .null, .null, .null, .null, .null, .null, .null, .null, .null, .int (nI 0)])), (q1, za ct 0 4), (q2, za ct 0 4)]) rfl hD (fun hD => ?_)
  refine g_putF (q0 := 0) (ty := .array .int) (w' := [(q, .inr (3, [.ref q1, .ref q2, .null, .null, .null, .null, .null, .null, .null, .null, .int (nI 0), .null, .null, .null, .null, .null, .null, .null, .null, .null, .null, .null, .int (nI 0)])), (q1, za ct 0 4), (q2, za ct 0 4)]) hx hb hts (in_mw in_MD) ty_MD tyo_MD nm_MD hown hK.1 hD rfl rfl 1 (by decide) (hts _ (List.mem_cons_of_mem _ t_316)) rfl hnm rfl (by decide +kernel) rfl rfl (Nat.le_of_ble_eq_true rfl) d_MD_init_15 rfl (fun hD => ?_)
  refine g_aload_n hx hb d_MD_init_18 rfl rfl ?_
  refine g_iconst hx hb d_MD_init_19 k_iconst_4 ?_
  refine g_newa (atype := .int) (ty := .int) (a0 := (4, .inl (fun _ => nI 0))) hx hb (hts _ (List.mem_cons_of_mem _ t_83)) rfl hK.1 0 rfl hD hA (ha_i 4) (by decide) (hby_i (by decide)) (Nat.le_of_ble_eq_true rfl) (Nat.le_of_ble_eq_true rfl) d_MD_init_20 (fun q3 hD => ?_)
  refine g_wd (w' := [(q, .inr (3, [.ref q1, .ref q2, .null, .null, .null, .null, .null, .null, .null, .null, .int (nI 0), .null, .null, .null, .null, .null, .null, .null, .null, .null, .null, .null, .int (nI 0)])), (q1, za ct 0 4), (q2, za ct 0 4), (q3, za ct 0 4)]) rfl hD (fun hD => ?_)
  refine g_putF (q0 := 0) (ty := .array .int) (w' := [(q, .inr (3, [.ref q1, .ref q2, .ref q3, .null, .null, .null, .null, .null, .null, .null, .int (nI 0), .null, .null, .null, .null, .null, .null, .null, .null, .null, .null, .null, .int (nI 0)])), (q1, za ct 0 4), (q2, za ct 0 4), (q3, za ct 0 4)]) hx hb hts (in_mw in_MD) ty_MD tyo_MD nm_MD hown hK.1 hD rfl rfl 2 (by decide) (hts _ (List.mem_cons_of_mem _ t_317)) rfl hnm rfl (by decide +kernel) rfl rfl (Nat.le_of_ble_eq_true rfl) d_MD_init_22 rfl (fun hD => ?_)
  refine g_aload_n hx hb d_MD_init_25 rfl rfl ?_
  refine g_iconst hx hb d_MD_init_26 k_iconst_4 ?_
  refine g_newa (atype := .boolean) (ty := .boolean) (a0 := (4, .inl (fun _ => nI 0))) hx hb (hts _ (List.mem_cons_of_mem _ t_385)) rfl hK.1 1 rfl hD hA (ha_z 4) (by decide) (hby_z (by decide)) (Nat.le_of_ble_eq_true rfl) (Nat.le_of_ble_eq_true rfl) d_MD_init_27 (fun q4 hD => ?_)
  refine g_wd (w' := [(q, .inr (3, [.ref q1, .ref q2, .ref q3, .null, .null, .null, .null, .null, .null, .null, .int (nI 0), .null, .null, .null, .null, .null, .null, .null, .null, .null, .null, .null, .int (nI 0)])), (q1, za ct 0 4), (q2, za ct 0 4), (q3, za ct 0 4), (q4, za ct 1 4)]) rfl hD (fun hD => ?_)
  refine g_putF (q0 := 0) (ty := .array .boolean) (w' := [(q, .inr (3, [.ref q1, .ref q2, .ref q3, .ref q4, .null, .null, .null, .null, .null, .null, .int (nI 0), .null, .null, .null, .null, .null, .null, .null, .null, .null, .null, .null, .int (nI 0)])), (q1, za ct 0 4), (q2, za ct 0 4), (q3, za ct 0 4), (q4, za ct 1 4)]) hx hb hts (in_mw in_MD) ty_MD tyo_MD nm_MD hown hK.1 hD rfl rfl 3 (by decide) (hts _ (List.mem_cons_of_mem _ t_318)) rfl hnm rfl (by decide +kernel) rfl rfl (Nat.le_of_ble_eq_true rfl) d_MD_init_29 rfl (fun hD => ?_)
  refine g_aload_n hx hb d_MD_init_32 rfl rfl ?_
  refine g_iconst hx hb d_MD_init_33 k_iconst_4 ?_
  refine g_newa (atype := .boolean) (ty := .boolean) (a0 := (4, .inl (fun _ => nI 0))) hx hb (hts _ (List.mem_cons_of_mem _ t_385)) rfl hK.1 1 rfl hD hA (ha_z 4) (by decide) (hby_z (by decide)) (Nat.le_of_ble_eq_true rfl) (Nat.le_of_ble_eq_true rfl) d_MD_init_34 (fun q5 hD => ?_)
  refine g_wd (w' := [(q, .inr (3, [.ref q1, .ref q2, .ref q3, .ref q4, .null, .null, .null, .null, .null, .null, .int (nI 0), .null, .null, .null, .null, .null, .null, .null, .null, .null, .null, .null, .int (nI 0)])), (q1, za ct 0 4), (q2, za ct 0 4), (q3, za ct 0 4), (q4, za ct 1 4), (q5, za ct 1 4)]) rfl hD (fun hD => ?_)
  refine g_putF (q0 := 0) (ty := .array .boolean) (w' := [(q, .inr (3, [.ref q1, .ref q2, .ref q3, .ref q4, .ref q5, .null, .null, .null, .null, .null, .int (nI 0), .null, .null, .null, .null, .null, .null, .null, .null, .null, .null, .null, .int (nI 0)])), (q1, za ct 0 4), (q2, za ct 0 4), (q3, za ct 0 4), (q4, za ct 1 4), (q5, za ct 1 4)]) hx hb hts (in_mw in_MD) ty_MD tyo_MD nm_MD hown hK.1 hD rfl rfl 4 (by decide) (hts _ (List.mem_cons_of_mem _ t_319)) rfl hnm rfl (by decide +kernel) rfl rfl (Nat.le_of_ble_eq_true rfl) d_MD_init_36 rfl (fun hD => ?_)
  refine g_aload_n hx hb d_MD_init_39 rfl rfl ?_
  refine g_iconst hx hb d_MD_init_40 k_iconst_4 ?_
  refine g_newa (atype := .int) (ty := .int) (a0 := (4, .inl (fun _ => nI 0))) hx hb (hts _ (List.mem_cons_of_mem _ t_83)) rfl hK.1 0 rfl hD hA (ha_i 4) (by decide) (hby_i (by decide)) (Nat.le_of_ble_eq_true rfl) (Nat.le_of_ble_eq_true rfl) d_MD_init_41 (fun q6 hD => ?_)
  refine g_wd (w' := [(q, .inr (3, [.ref q1, .ref q2, .ref q3, .ref q4, .ref q5, .null, .null, .null, .null, .null, .int (nI 0), .null, .null, .null, .null, .null, .null, .null, .null, .null, .null, .null, .int (nI 0)])), (q1, za ct 0 4), (q2, za ct 0 4), (q3, za ct 0 4), (q4, za ct 1 4), (q5, za ct 1 4), (q6, za ct 0 4)]) rfl hD (fun hD => ?_)
  refine g_putF (q0 := 0) (ty := .array .int) (w' := [(q, .inr (3, [.ref q1, .ref q2, .ref q3, .ref q4, .ref q5, .ref q6, .null, .null, .null, .null, .int (nI 0), .null, .null, .null, .null, .null, .null, .null, .null, .null, .null, .null, .int (nI 0)])), (q1, za ct 0 4), (q2, za ct 0 4), (q3, za ct 0 4), (q4, za ct 1 4), (q5, za ct 1 4), (q6, za ct 0 4)]) hx hb hts (in_mw in_MD) ty_MD tyo_MD nm_MD hown hK.1 hD rfl rfl 5 (by decide) (hts _ (List.mem_cons_of_mem _ t_320)) rfl hnm rfl (by decide +kernel) rfl rfl (Nat.le_of_ble_eq_true rfl) d_MD_init_43 rfl (fun hD => ?_)
  refine g_aload_n hx hb d_MD_init_46 rfl rfl ?_
  refine g_iconst hx hb d_MD_init_47 k_iconst_4 ?_
  refine g_newa (atype := .int) (ty := .int) (a0 := (4, .inl (fun _ => nI 0))) hx hb (hts _ (List.mem_cons_of_mem _ t_83)) rfl hK.1 0 rfl hD hA (ha_i 4) (by decide) (hby_i (by decide)) (Nat.le_of_ble_eq_true rfl) (Nat.le_of_ble_eq_true rfl) d_MD_init_48 (fun q7 hD => ?_)
  refine g_wd (w' := [(q, .inr (3, [.ref q1, .ref q2, .ref q3, .ref q4, .ref q5, .ref q6, .null, .null, .null, .null, .int (nI 0), .null, .null, .null, .null, .null, .null, .null, .null, .null, .null, .null, .int (nI 0)])), (q1, za ct 0 4), (q2, za ct 0 4), (q3, za ct 0 4), (q4, za ct 1 4), (q5, za ct 1 4), (q6, za ct 0 4), (q7, za ct 0 4)]) rfl hD (fun hD => ?_)
  refine g_putF (q0 := 0) (ty := .array .int) (w' := [(q, .inr (3, [.ref q1, .ref q2, .ref q3, .ref q4, .ref q5, .ref q6, .ref q7, .null, .null, .null, .int (nI 0), .null, .null, .null, .null, .null, .null, .null, .null, .null, .null, .null, .int (nI 0)])), (q1, za ct 0 4), (q2, za ct 0 4), (q3, za ct 0 4), (q4, za ct 1 4), (q5, za ct 1 4), (q6, za ct 0 4), (q7, za ct 0 4)]) hx hb hts (in_mw in_MD) ty_MD tyo_MD nm_MD hown hK.1 hD rfl rfl 6 (by decide) (hts _ (List.mem_cons_of_mem _ t_321)) rfl hnm rfl (by decide +kernel) rfl rfl (Nat.le_of_ble_eq_true rfl) d_MD_init_50 rfl (fun hD => ?_)
  refine g_aload_n hx hb d_MD_init_53 rfl rfl ?_
  refine g_iconst hx hb d_MD_init_54 k_iconst_4 ?_
  refine g_newa (atype := .int) (ty := .int) (a0 := (4, .inl (fun _ => nI 0))) hx hb (hts _ (List.mem_cons_of_mem _ t_83)) rfl hK.1 0 rfl hD hA (ha_i 4) (by decide) (hby_i (by decide)) (Nat.le_of_ble_eq_true rfl) (Nat.le_of_ble_eq_true rfl) d_MD_init_55 (fun q8 hD => ?_)
  refine g_wd (w' := [(q, .inr (3, [.ref q1, .ref q2, .ref q3, .ref q4, .ref q5, .ref q6, .ref q7, .null, .null, .null, .int (nI 0), .null, .null, .null, .null, .null, .null, .null, .null, .null, .null, .null, .int (nI 0)])), (q1, za ct 0 4), (q2, za ct 0 4), (q3, za ct 0 4), (q4, za ct 1 4), (q5, za ct 1 4), (q6, za ct 0 4), (q7, za ct 0 4), (q8, za ct 0 4)]) rfl hD (fun hD => ?_)
  refine g_putF (q0 := 0) (ty := .array .int) (w' := [(q, .inr (3, [.ref q1, .ref q2, .ref q3, .ref q4, .ref q5, .ref q6, .ref q7, .ref q8, .null, .null, .int (nI 0), .null, .null, .null, .null, .null, .null, .null, .null, .null, .null, .null, .int (nI 0)])), (q1, za ct 0 4), (q2, za ct 0 4), (q3, za ct 0 4), (q4, za ct 1 4), (q5, za ct 1 4), (q6, za ct 0 4), (q7, za ct 0 4), (q8, za ct 0 4)]) hx hb hts (in_mw in_MD) ty_MD tyo_MD nm_MD hown hK.1 hD rfl rfl 7 (by decide) (hts _ (List.mem_cons_of_mem _ t_322)) rfl hnm rfl (by decide +kernel) rfl rfl (Nat.le_of_ble_eq_true rfl) d_MD_init_57 rfl (fun hD => ?_)
  refine g_aload_n hx hb d_MD_init_60 rfl rfl ?_
  refine g_bipush hx hb d_MD_init_61 k_bipush_16 ?_
  refine g_newa (atype := .int) (ty := .int) (a0 := (16, .inl (fun _ => nI 0))) hx hb (hts _ (List.mem_cons_of_mem _ t_83)) rfl hK.1 0 rfl hD hA (ha_i 16) (by decide) (hby_i (by decide)) (Nat.le_of_ble_eq_true rfl) (Nat.le_of_ble_eq_true rfl) d_MD_init_63 (fun q9 hD => ?_)
  refine g_wd (w' := [(q, .inr (3, [.ref q1, .ref q2, .ref q3, .ref q4, .ref q5, .ref q6, .ref q7, .ref q8, .null, .null, .int (nI 0), .null, .null, .null, .null, .null, .null, .null, .null, .null, .null, .null, .int (nI 0)])), (q1, za ct 0 4), (q2, za ct 0 4), (q3, za ct 0 4), (q4, za ct 1 4), (q5, za ct 1 4), (q6, za ct 0 4), (q7, za ct 0 4), (q8, za ct 0 4), (q9, za ct 0 16)]) rfl hD (fun hD => ?_)
  refine g_putF (q0 := 0) (ty := .array .int) (w' := [(q, .inr (3, [.ref q1, .ref q2, .ref q3, .ref q4, .ref q5, .ref q6, .ref q7, .ref q8, .ref q9, .null, .int (nI 0), .null, .null, .null, .null, .null, .null, .null, .null, .null, .null, .null, .int (nI 0)])), (q1, za ct 0 4), (q2, za ct 0 4), (q3, za ct 0 4), (q4, za ct 1 4), (q5, za ct 1 4), (q6, za ct 0 4), (q7, za ct 0 4), (q8, za ct 0 4), (q9, za ct 0 16)]) hx hb hts (in_mw in_MD) ty_MD tyo_MD nm_MD hown hK.1 hD rfl rfl 8 (by decide) (hts _ (List.mem_cons_of_mem _ t_323)) rfl hnm rfl (by decide +kernel) rfl rfl (Nat.le_of_ble_eq_true rfl) d_MD_init_65 rfl (fun hD => ?_)
  refine g_aload_n hx hb d_MD_init_68 rfl rfl ?_
  refine g_bipush hx hb d_MD_init_69 k_bipush_16 ?_
  refine g_newa (atype := .int) (ty := .int) (a0 := (16, .inl (fun _ => nI 0))) hx hb (hts _ (List.mem_cons_of_mem _ t_83)) rfl hK.1 0 rfl hD hA (ha_i 16) (by decide) (hby_i (by decide)) (Nat.le_of_ble_eq_true rfl) (Nat.le_of_ble_eq_true rfl) d_MD_init_71 (fun q10 hD => ?_)
  refine g_wd (w' := [(q, .inr (3, [.ref q1, .ref q2, .ref q3, .ref q4, .ref q5, .ref q6, .ref q7, .ref q8, .ref q9, .null, .int (nI 0), .null, .null, .null, .null, .null, .null, .null, .null, .null, .null, .null, .int (nI 0)])), (q1, za ct 0 4), (q2, za ct 0 4), (q3, za ct 0 4), (q4, za ct 1 4), (q5, za ct 1 4), (q6, za ct 0 4), (q7, za ct 0 4), (q8, za ct 0 4), (q9, za ct 0 16), (q10, za ct 0 16)]) rfl hD (fun hD => ?_)
  refine g_putF (q0 := 0) (ty := .array .int) (w' := [(q, .inr (3, [.ref q1, .ref q2, .ref q3, .ref q4, .ref q5, .ref q6, .ref q7, .ref q8, .ref q9, .ref q10, .int (nI 0), .null, .null, .null, .null, .null, .null, .null, .null, .null, .null, .null, .int (nI 0)])), (q1, za ct 0 4), (q2, za ct 0 4), (q3, za ct 0 4), (q4, za ct 1 4), (q5, za ct 1 4), (q6, za ct 0 4), (q7, za ct 0 4), (q8, za ct 0 4), (q9, za ct 0 16), (q10, za ct 0 16)]) hx hb hts (in_mw in_MD) ty_MD tyo_MD nm_MD hown hK.1 hD rfl rfl 9 (by decide) (hts _ (List.mem_cons_of_mem _ t_324)) rfl hnm rfl (by decide +kernel) rfl rfl (Nat.le_of_ble_eq_true rfl) d_MD_init_73 rfl (fun hD => ?_)
  refine g_aload_n hx hb d_MD_init_76 rfl rfl ?_
  refine g_bipush hx hb d_MD_init_77 k_bipush_16 ?_
  refine g_newa (atype := .int) (ty := .int) (a0 := (16, .inl (fun _ => nI 0))) hx hb (hts _ (List.mem_cons_of_mem _ t_83)) rfl hK.1 0 rfl hD hA (ha_i 16) (by decide) (hby_i (by decide)) (Nat.le_of_ble_eq_true rfl) (Nat.le_of_ble_eq_true rfl) d_MD_init_79 (fun q11 hD => ?_)
  refine g_wd (w' := [(q, .inr (3, [.ref q1, .ref q2, .ref q3, .ref q4, .ref q5, .ref q6, .ref q7, .ref q8, .ref q9, .ref q10, .int (nI 0), .null, .null, .null, .null, .null, .null, .null, .null, .null, .null, .null, .int (nI 0)])), (q1, za ct 0 4), (q2, za ct 0 4), (q3, za ct 0 4), (q4, za ct 1 4), (q5, za ct 1 4), (q6, za ct 0 4), (q7, za ct 0 4), (q8, za ct 0 4), (q9, za ct 0 16), (q10, za ct 0 16), (q11, za ct 0 16)]) rfl hD (fun hD => ?_)
  refine g_putF (q0 := 0) (ty := .array .int) (w' := [(q, .inr (3, [.ref q1, .ref q2, .ref q3, .ref q4, .ref q5, .ref q6, .ref q7, .ref q8, .ref q9, .ref q10, .int (nI 0), .ref q11, .null, .null, .null, .null, .null, .null, .null, .null, .null, .null, .int (nI 0)])), (q1, za ct 0 4), (q2, za ct 0 4), (q3, za ct 0 4), (q4, za ct 1 4), (q5, za ct 1 4), (q6, za ct 0 4), (q7, za ct 0 4), (q8, za ct 0 4), (q9, za ct 0 16), (q10, za ct 0 16), (q11, za ct 0 16)]) hx hb hts (in_mw in_MD) ty_MD tyo_MD nm_MD hown hK.1 hD rfl rfl 11 (by decide) (hts _ (List.mem_cons_of_mem _ t_326)) rfl hnm rfl (by decide +kernel) rfl rfl (Nat.le_of_ble_eq_true rfl) d_MD_init_81 rfl (fun hD => ?_)
  refine g_aload_n hx hb d_MD_init_84 rfl rfl ?_
  refine g_bipush hx hb d_MD_init_85 k_bipush_64 ?_
  refine g_newa (atype := .int) (ty := .int) (a0 := (64, .inl (fun _ => nI 0))) hx hb (hts _ (List.mem_cons_of_mem _ t_83)) rfl hK.1 0 rfl hD hA (ha_i 64) (by decide) (hby_i (by decide)) (Nat.le_of_ble_eq_true rfl) (Nat.le_of_ble_eq_true rfl) d_MD_init_87 (fun q12 hD => ?_)
  refine g_wd (w' := [(q, .inr (3, [.ref q1, .ref q2, .ref q3, .ref q4, .ref q5, .ref q6, .ref q7, .ref q8, .ref q9, .ref q10, .int (nI 0), .ref q11, .null, .null, .null, .null, .null, .null, .null, .null, .null, .null, .int (nI 0)])), (q1, za ct 0 4), (q2, za ct 0 4), (q3, za ct 0 4), (q4, za ct 1 4), (q5, za ct 1 4), (q6, za ct 0 4), (q7, za ct 0 4), (q8, za ct 0 4), (q9, za ct 0 16), (q10, za ct 0 16), (q11, za ct 0 16), (q12, za ct 0 64)]) rfl hD (fun hD => ?_)
  refine g_putF (q0 := 0) (ty := .array .int) (w' := [(q, .inr (3, [.ref q1, .ref q2, .ref q3, .ref q4, .ref q5, .ref q6, .ref q7, .ref q8, .ref q9, .ref q10, .int (nI 0), .ref q11, .ref q12, .null, .null, .null, .null, .null, .null, .null, .null, .null, .int (nI 0)])), (q1, za ct 0 4), (q2, za ct 0 4), (q3, za ct 0 4), (q4, za ct 1 4), (q5, za ct 1 4), (q6, za ct 0 4), (q7, za ct 0 4), (q8, za ct 0 4), (q9, za ct 0 16), (q10, za ct 0 16), (q11, za ct 0 16), (q12, za ct 0 64)]) hx hb hts (in_mw in_MD) ty_MD tyo_MD nm_MD hown hK.1 hD rfl rfl 12 (by decide) (hts _ (List.mem_cons_of_mem _ t_327)) rfl hnm rfl (by decide +kernel) rfl rfl (Nat.le_of_ble_eq_true rfl) d_MD_init_89 rfl (fun hD => ?_)
  refine g_aload_n hx hb d_MD_init_92 rfl rfl ?_
  refine g_sipush hx hb d_MD_init_93 k_sipush_256 ?_
  refine g_newa (atype := .int) (ty := .int) (a0 := (256, .inl (fun _ => nI 0))) hx hb (hts _ (List.mem_cons_of_mem _ t_83)) rfl hK.1 0 rfl hD hA (ha_i 256) (by decide) (hby_i (by decide)) (Nat.le_of_ble_eq_true rfl) (Nat.le_of_ble_eq_true rfl) d_MD_init_96 (fun q13 hD => ?_)
  refine g_wd (w' := [(q, .inr (3, [.ref q1, .ref q2, .ref q3, .ref q4, .ref q5, .ref q6, .ref q7, .ref q8, .ref q9, .ref q10, .int (nI 0), .ref q11, .ref q12, .null, .null, .null, .null, .null, .null, .null, .null, .null, .int (nI 0)])), (q1, za ct 0 4), (q2, za ct 0 4), (q3, za ct 0 4), (q4, za ct 1 4), (q5, za ct 1 4), (q6, za ct 0 4), (q7, za ct 0 4), (q8, za ct 0 4), (q9, za ct 0 16), (q10, za ct 0 16), (q11, za ct 0 16), (q12, za ct 0 64), (q13, za ct 0 256)]) rfl hD (fun hD => ?_)
  refine g_putF (q0 := 0) (ty := .array .int) (w' := [(q, .inr (3, [.ref q1, .ref q2, .ref q3, .ref q4, .ref q5, .ref q6, .ref q7, .ref q8, .ref q9, .ref q10, .int (nI 0), .ref q11, .ref q12, .ref q13, .null, .null, .null, .null, .null, .null, .null, .null, .int (nI 0)])), (q1, za ct 0 4), (q2, za ct 0 4), (q3, za ct 0 4), (q4, za ct 1 4), (q5, za ct 1 4), (q6, za ct 0 4), (q7, za ct 0 4), (q8, za ct 0 4), (q9, za ct 0 16), (q10, za ct 0 16), (q11, za ct 0 16), (q12, za ct 0 64), (q13, za ct 0 256)]) hx hb hts (in_mw in_MD) ty_MD tyo_MD nm_MD hown hK.1 hD rfl rfl 13 (by decide) (hts _ (List.mem_cons_of_mem _ t_328)) rfl hnm rfl (by decide +kernel) rfl rfl (Nat.le_of_ble_eq_true rfl) d_MD_init_98 rfl (fun hD => ?_)
  refine g_aload_n hx hb d_MD_init_101 rfl rfl ?_
  refine g_sipush hx hb d_MD_init_102 k_sipush_1024 ?_
  refine g_newa (atype := .int) (ty := .int) (a0 := (1024, .inl (fun _ => nI 0))) hx hb (hts _ (List.mem_cons_of_mem _ t_83)) rfl hK.1 0 rfl hD hA (ha_i 1024) (by decide) (hby_i (by decide)) (Nat.le_of_ble_eq_true rfl) (Nat.le_of_ble_eq_true rfl) d_MD_init_105 (fun q14 hD => ?_)
  refine g_wd (w' := [(q, .inr (3, [.ref q1, .ref q2, .ref q3, .ref q4, .ref q5, .ref q6, .ref q7, .ref q8, .ref q9, .ref q10, .int (nI 0), .ref q11, .ref q12, .ref q13, .null, .null, .null, .null, .null, .null, .null, .null, .int (nI 0)])), (q1, za ct 0 4), (q2, za ct 0 4), (q3, za ct 0 4), (q4, za ct 1 4), (q5, za ct 1 4), (q6, za ct 0 4), (q7, za ct 0 4), (q8, za ct 0 4), (q9, za ct 0 16), (q10, za ct 0 16), (q11, za ct 0 16), (q12, za ct 0 64), (q13, za ct 0 256), (q14, za ct 0 1024)]) rfl hD (fun hD => ?_)
  refine g_putF (q0 := 0) (ty := .array .int) (w' := [(q, .inr (3, [.ref q1, .ref q2, .ref q3, .ref q4, .ref q5, .ref q6, .ref q7, .ref q8, .ref q9, .ref q10, .int (nI 0), .ref q11, .ref q12, .ref q13, .ref q14, .null, .null, .null, .null, .null, .null, .null, .int (nI 0)])), (q1, za ct 0 4), (q2, za ct 0 4), (q3, za ct 0 4), (q4, za ct 1 4), (q5, za ct 1 4), (q6, za ct 0 4), (q7, za ct 0 4), (q8, za ct 0 4), (q9, za ct 0 16), (q10, za ct 0 16), (q11, za ct 0 16), (q12, za ct 0 64), (q13, za ct 0 256), (q14, za ct 0 1024)]) hx hb hts (in_mw in_MD) ty_MD tyo_MD nm_MD hown hK.1 hD rfl rfl 14 (by decide) (hts _ (List.mem_cons_of_mem _ t_329)) rfl hnm rfl (by decide +kernel) rfl rfl (Nat.le_of_ble_eq_true rfl) d_MD_init_107 rfl (fun hD => ?_)
  refine g_aload_n hx hb d_MD_init_110 rfl rfl ?_
  refine g_sipush hx hb d_MD_init_111 k_sipush_1024 ?_
  refine g_newa (atype := .boolean) (ty := .boolean) (a0 := (1024, .inl (fun _ => nI 0))) hx hb (hts _ (List.mem_cons_of_mem _ t_385)) rfl hK.1 1 rfl hD hA (ha_z 1024) (by decide) (hby_z (by decide)) (Nat.le_of_ble_eq_true rfl) (Nat.le_of_ble_eq_true rfl) d_MD_init_114 (fun q15 hD => ?_)
  refine g_wd (w' := [(q, .inr (3, [.ref q1, .ref q2, .ref q3, .ref q4, .ref q5, .ref q6, .ref q7, .ref q8, .ref q9, .ref q10, .int (nI 0), .ref q11, .ref q12, .ref q13, .ref q14, .null, .null, .null, .null, .null, .null, .null, .int (nI 0)])), (q1, za ct 0 4), (q2, za ct 0 4), (q3, za ct 0 4), (q4, za ct 1 4), (q5, za ct 1 4), (q6, za ct 0 4), (q7, za ct 0 4), (q8, za ct 0 4), (q9, za ct 0 16), (q10, za ct 0 16), (q11, za ct 0 16), (q12, za ct 0 64), (q13, za ct 0 256), (q14, za ct 0 1024), (q15, za ct 1 1024)]) rfl hD (fun hD => ?_)
  refine g_putF (q0 := 0) (ty := .array .boolean) (w' := [(q, .inr (3, [.ref q1, .ref q2, .ref q3, .ref q4, .ref q5, .ref q6, .ref q7, .ref q8, .ref q9, .ref q10, .int (nI 0), .ref q11, .ref q12, .ref q13, .ref q14, .ref q15, .null, .null, .null, .null, .null, .null, .int (nI 0)])), (q1, za ct 0 4), (q2, za ct 0 4), (q3, za ct 0 4), (q4, za ct 1 4), (q5, za ct 1 4), (q6, za ct 0 4), (q7, za ct 0 4), (q8, za ct 0 4), (q9, za ct 0 16), (q10, za ct 0 16), (q11, za ct 0 16), (q12, za ct 0 64), (q13, za ct 0 256), (q14, za ct 0 1024), (q15, za ct 1 1024)]) hx hb hts (in_mw in_MD) ty_MD tyo_MD nm_MD hown hK.1 hD rfl rfl 15 (by decide) (hts _ (List.mem_cons_of_mem _ t_330)) rfl hnm rfl (by decide +kernel) rfl rfl (Nat.le_of_ble_eq_true rfl) d_MD_init_116 rfl (fun hD => ?_)
  refine g_aload_n hx hb d_MD_init_119 rfl rfl ?_
  refine g_bipush hx hb d_MD_init_120 k_bipush_64 ?_
  refine g_newa (atype := .int) (ty := .int) (a0 := (64, .inl (fun _ => nI 0))) hx hb (hts _ (List.mem_cons_of_mem _ t_83)) rfl hK.1 0 rfl hD hA (ha_i 64) (by decide) (hby_i (by decide)) (Nat.le_of_ble_eq_true rfl) (Nat.le_of_ble_eq_true rfl) d_MD_init_122 (fun q16 hD => ?_)
  refine g_wd (w' := [(q, .inr (3, [.ref q1, .ref q2, .ref q3, .ref q4, .ref q5, .ref q6, .ref q7, .ref q8, .ref q9, .ref q10, .int (nI 0), .ref q11, .ref q12, .ref q13, .ref q14, .ref q15, .null, .null, .null, .null, .null, .null, .int (nI 0)])), (q1, za ct 0 4), (q2, za ct 0 4), (q3, za ct 0 4), (q4, za ct 1 4), (q5, za ct 1 4), (q6, za ct 0 4), (q7, za ct 0 4), (q8, za ct 0 4), (q9, za ct 0 16), (q10, za ct 0 16), (q11, za ct 0 16), (q12, za ct 0 64), (q13, za ct 0 256), (q14, za ct 0 1024), (q15, za ct 1 1024), (q16, za ct 0 64)]) rfl hD (fun hD => ?_)
  refine g_putF (q0 := 0) (ty := .array .int) (w' := [(q, .inr (3, [.ref q1, .ref q2, .ref q3, .ref q4, .ref q5, .ref q6, .ref q7, .ref q8, .ref q9, .ref q10, .int (nI 0), .ref q11, .ref q12, .ref q13, .ref q14, .ref q15, .ref q16, .null, .null, .null, .null, .null, .int (nI 0)])), (q1, za ct 0 4), (q2, za ct 0 4), (q3, za ct 0 4), (q4, za ct 1 4), (q5, za ct 1 4), (q6, za ct 0 4), (q7, za ct 0 4), (q8, za ct 0 4), (q9, za ct 0 16), (q10, za ct 0 16), (q11, za ct 0 16), (q12, za ct 0 64), (q13, za ct 0 256), (q14, za ct 0 1024), (q15, za ct 1 1024), (q16, za ct 0 64)]) hx hb hts (in_mw in_MD) ty_MD tyo_MD nm_MD hown hK.1 hD rfl rfl 16 (by decide) (hts _ (List.mem_cons_of_mem _ t_331)) rfl hnm rfl (by decide +kernel) rfl rfl (Nat.le_of_ble_eq_true rfl) d_MD_init_124 rfl (fun hD => ?_)
  refine g_aload_n hx hb d_MD_init_127 rfl rfl ?_
  refine g_sipush hx hb d_MD_init_128 k_sipush_256 ?_
  refine g_newa (atype := .int) (ty := .int) (a0 := (256, .inl (fun _ => nI 0))) hx hb (hts _ (List.mem_cons_of_mem _ t_83)) rfl hK.1 0 rfl hD hA (ha_i 256) (by decide) (hby_i (by decide)) (Nat.le_of_ble_eq_true rfl) (Nat.le_of_ble_eq_true rfl) d_MD_init_131 (fun q17 hD => ?_)
  refine g_wd (w' := [(q, .inr (3, [.ref q1, .ref q2, .ref q3, .ref q4, .ref q5, .ref q6, .ref q7, .ref q8, .ref q9, .ref q10, .int (nI 0), .ref q11, .ref q12, .ref q13, .ref q14, .ref q15, .ref q16, .null, .null, .null, .null, .null, .int (nI 0)])), (q1, za ct 0 4), (q2, za ct 0 4), (q3, za ct 0 4), (q4, za ct 1 4), (q5, za ct 1 4), (q6, za ct 0 4), (q7, za ct 0 4), (q8, za ct 0 4), (q9, za ct 0 16), (q10, za ct 0 16), (q11, za ct 0 16), (q12, za ct 0 64), (q13, za ct 0 256), (q14, za ct 0 1024), (q15, za ct 1 1024), (q16, za ct 0 64), (q17, za ct 0 256)]) rfl hD (fun hD => ?_)
  refine g_putF (q0 := 0) (ty := .array .int) (w' := [(q, .inr (3, [.ref q1, .ref q2, .ref q3, .ref q4, .ref q5, .ref q6, .ref q7, .ref q8, .ref q9, .ref q10, .int (nI 0), .ref q11, .ref q12, .ref q13, .ref q14, .ref q15, .ref q16, .ref q17, .null, .null, .null, .null, .int (nI 0)])), (q1, za ct 0 4), (q2, za ct 0 4), (q3, za ct 0 4), (q4, za ct 1 4), (q5, za ct 1 4), (q6, za ct 0 4), (q7, za ct 0 4), (q8, za ct 0 4), (q9, za ct 0 16), (q10, za ct 0 16), (q11, za ct 0 16), (q12, za ct 0 64), (q13, za ct 0 256), (q14, za ct 0 1024), (q15, za ct 1 1024), (q16, za ct 0 64), (q17, za ct 0 256)]) hx hb hts (in_mw in_MD) ty_MD tyo_MD nm_MD hown hK.1 hD rfl rfl 17 (by decide) (hts _ (List.mem_cons_of_mem _ t_332)) rfl hnm rfl (by decide +kernel) rfl rfl (Nat.le_of_ble_eq_true rfl) d_MD_init_133 rfl (fun hD => ?_)
  refine g_aload_n hx hb d_MD_init_136 rfl rfl ?_
  refine g_sipush hx hb d_MD_init_137 k_sipush_256 ?_
  refine g_newa (atype := .boolean) (ty := .boolean) (a0 := (256, .inl (fun _ => nI 0))) hx hb (hts _ (List.mem_cons_of_mem _ t_385)) rfl hK.1 1 rfl hD hA (ha_z 256) (by decide) (hby_z (by decide)) (Nat.le_of_ble_eq_true rfl) (Nat.le_of_ble_eq_true rfl) d_MD_init_140 (fun q18 hD => ?_)
  refine g_wd (w' := [(q, .inr (3, [.ref q1, .ref q2, .ref q3, .ref q4, .ref q5, .ref q6, .ref q7, .ref q8, .ref q9, .ref q10, .int (nI 0), .ref q11, .ref q12, .ref q13, .ref q14, .ref q15, .ref q16, .ref q17, .null, .null, .null, .null, .int (nI 0)])), (q1, za ct 0 4), (q2, za ct 0 4), (q3, za ct 0 4), (q4, za ct 1 4), (q5, za ct 1 4), (q6, za ct 0 4), (q7, za ct 0 4), (q8, za ct 0 4), (q9, za ct 0 16), (q10, za ct 0 16), (q11, za ct 0 16), (q12, za ct 0 64), (q13, za ct 0 256), (q14, za ct 0 1024), (q15, za ct 1 1024), (q16, za ct 0 64), (q17, za ct 0 256), (q18, za ct 1 256)]) rfl hD (fun hD => ?_)
  refine g_putF (q0 := 0) (ty := .array .boolean) (w' := [(q, .inr (3, [.ref q1, .ref q2, .ref q3, .ref q4, .ref q5, .ref q6, .ref q7, .ref q8, .ref q9, .ref q10, .int (nI 0), .ref q11, .ref q12, .ref q13, .ref q14, .ref q15, .ref q16, .ref q17, .ref q18, .null, .null, .null, .int (nI 0)])), (q1, za ct 0 4), (q2, za ct 0 4), (q3, za ct 0 4), (q4, za ct 1 4), (q5, za ct 1 4), (q6, za ct 0 4), (q7, za ct 0 4), (q8, za ct 0 4), (q9, za ct 0 16), (q10, za ct 0 16), (q11, za ct 0 16), (q12, za ct 0 64), (q13, za ct 0 256), (q14, za ct 0 1024), (q15, za ct 1 1024), (q16, za ct 0 64), (q17, za ct 0 256), (q18, za ct 1 256)]) hx hb hts (in_mw in_MD) ty_MD tyo_MD nm_MD hown hK.1 hD rfl rfl 18 (by decide) (hts _ (List.mem_cons_of_mem _ t_333)) rfl hnm rfl (by decide +kernel) rfl rfl (Nat.le_of_ble_eq_true rfl) d_MD_init_142 rfl (fun hD => ?_)
  refine g_aload_n hx hb d_MD_init_145 rfl rfl ?_
  refine g_sipush hx hb d_MD_init_146 k_sipush_1280 ?_
  refine g_newa (atype := .int) (ty := .int) (a0 := (1280, .inl (fun _ => nI 0))) hx hb (hts _ (List.mem_cons_of_mem _ t_83)) rfl hK.1 0 rfl hD hA (ha_i 1280) (by decide) (hby_i (by decide)) (Nat.le_of_ble_eq_true rfl) (Nat.le_of_ble_eq_true rfl) d_MD_init_149 (fun q19 hD => ?_)
  refine g_wd (w' := [(q, .inr (3, [.ref q1, .ref q2, .ref q3, .ref q4, .ref q5, .ref q6, .ref q7, .ref q8, .ref q9, .ref q10, .int (nI 0), .ref q11, .ref q12, .ref q13, .ref q14, .ref q15, .ref q16, .ref q17, .ref q18, .null, .null, .null, .int (nI 0)])), (q1, za ct 0 4), (q2, za ct 0 4), (q3, za ct 0 4), (q4, za ct 1 4), (q5, za ct 1 4), (q6, za ct 0 4), (q7, za ct 0 4), (q8, za ct 0 4), (q9, za ct 0 16), (q10, za ct 0 16), (q11, za ct 0 16), (q12, za ct 0 64), (q13, za ct 0 256), (q14, za ct 0 1024), (q15, za ct 1 1024), (q16, za ct 0 64), (q17, za ct 0 256), (q18, za ct 1 256), (q19, za ct 0 1280)]) rfl hD (fun hD => ?_)
  refine g_putF (q0 := 0) (ty := .array .int) (w' := [(q, .inr (3, [.ref q1, .ref q2, .ref q3, .ref q4, .ref q5, .ref q6, .ref q7, .ref q8, .ref q9, .ref q10, .int (nI 0), .ref q11, .ref q12, .ref q13, .ref q14, .ref q15, .ref q16, .ref q17, .ref q18, .ref q19, .null, .null, .int (nI 0)])), (q1, za ct 0 4), (q2, za ct 0 4), (q3, za ct 0 4), (q4, za ct 1 4), (q5, za ct 1 4), (q6, za ct 0 4), (q7, za ct 0 4), (q8, za ct 0 4), (q9, za ct 0 16), (q10, za ct 0 16), (q11, za ct 0 16), (q12, za ct 0 64), (q13, za ct 0 256), (q14, za ct 0 1024), (q15, za ct 1 1024), (q16, za ct 0 64), (q17, za ct 0 256), (q18, za ct 1 256), (q19, za ct 0 1280)]) hx hb hts (in_mw in_MD) ty_MD tyo_MD nm_MD hown hK.1 hD rfl rfl 19 (by decide) (hts _ (List.mem_cons_of_mem _ t_334)) rfl hnm rfl (by decide +kernel) rfl rfl (Nat.le_of_ble_eq_true rfl) d_MD_init_151 rfl (fun hD => ?_)
  refine g_aload_n hx hb d_MD_init_154 rfl rfl ?_
  refine g_bipush hx hb d_MD_init_155 k_bipush_16 ?_
  refine g_newa (atype := .int) (ty := .int) (a0 := (16, .inl (fun _ => nI 0))) hx hb (hts _ (List.mem_cons_of_mem _ t_83)) rfl hK.1 0 rfl hD hA (ha_i 16) (by decide) (hby_i (by decide)) (Nat.le_of_ble_eq_true rfl) (Nat.le_of_ble_eq_true rfl) d_MD_init_157 (fun q20 hD => ?_)
  refine g_wd (w' := [(q, .inr (3, [.ref q1, .ref q2, .ref q3, .ref q4, .ref q5, .ref q6, .ref q7, .ref q8, .ref q9, .ref q10, .int (nI 0), .ref q11, .ref q12, .ref q13, .ref q14, .ref q15, .ref q16, .ref q17, .ref q18, .ref q19, .null, .null, .int (nI 0)])), (q1, za ct 0 4), (q2, za ct 0 4), (q3, za ct 0 4), (q4, za ct 1 4), (q5, za ct 1 4), (q6, za ct 0 4), (q7, za ct 0 4), (q8, za ct 0 4), (q9, za ct 0 16), (q10, za ct 0 16), (q11, za ct 0 16), (q12, za ct 0 64), (q13, za ct 0 256), (q14, za ct 0 1024), (q15, za ct 1 1024), (q16, za ct 0 64), (q17, za ct 0 256), (q18, za ct 1 256), (q19, za ct 0 1280), (q20, za ct 0 16)]) rfl hD (fun hD => ?_)
  refine g_putF (q0 := 0) (ty := .array .int) (w' := [(q, .inr (3, [.ref q1, .ref q2, .ref q3, .ref q4, .ref q5, .ref q6, .ref q7, .ref q8, .ref q9, .ref q10, .int (nI 0), .ref q11, .ref q12, .ref q13, .ref q14, .ref q15, .ref q16, .ref q17, .ref q18, .ref q19, .ref q20, .null, .int (nI 0)])), (q1, za ct 0 4), (q2, za ct 0 4), (q3, za ct 0 4), (q4, za ct 1 4), (q5, za ct 1 4), (q6, za ct 0 4), (q7, za ct 0 4), (q8, za ct 0 4), (q9, za ct 0 16), (q10, za ct 0 16), (q11, za ct 0 16), (q12, za ct 0 64), (q13, za ct 0 256), (q14, za ct 0 1024), (q15, za ct 1 1024), (q16, za ct 0 64), (q17, za ct 0 256), (q18, za ct 1 256), (q19, za ct 0 1280), (q20, za ct 0 16)]) hx hb hts (in_mw in_MD) ty_MD tyo_MD nm_MD hown hK.1 hD rfl rfl 20 (by decide) (hts _ (List.mem_cons_of_mem _ t_335)) rfl hnm rfl (by decide +kernel) rfl rfl (Nat.le_of_ble_eq_true rfl) d_MD_init_159 rfl (fun hD => ?_)
  refine g_aload_n hx hb d_MD_init_162 rfl rfl ?_
  refine g_iconst hx hb d_MD_init_163 k_iconst_4 ?_
  refine g_newa (atype := .int) (ty := .int) (a0 := (4, .inl (fun _ => nI 0))) hx hb (hts _ (List.mem_cons_of_mem _ t_83)) rfl hK.1 0 rfl hD hA (ha_i 4) (by decide) (hby_i (by decide)) (Nat.le_of_ble_eq_true rfl) (Nat.le_of_ble_eq_true rfl) d_MD_init_164 (fun q21 hD => ?_)
  refine g_wd (w' := [(q, .inr (3, [.ref q1, .ref q2, .ref q3, .ref q4, .ref q5, .ref q6, .ref q7, .ref q8, .ref q9, .ref q10, .int (nI 0), .ref q11, .ref q12, .ref q13, .ref q14, .ref q15, .ref q16, .ref q17, .ref q18, .ref q19, .ref q20, .null, .int (nI 0)])), (q1, za ct 0 4), (q2, za ct 0 4), (q3, za ct 0 4), (q4, za ct 1 4), (q5, za ct 1 4), (q6, za ct 0 4), (q7, za ct 0 4), (q8, za ct 0 4), (q9, za ct 0 16), (q10, za ct 0 16), (q11, za ct 0 16), (q12, za ct 0 64), (q13, za ct 0 256), (q14, za ct 0 1024), (q15, za ct 1 1024), (q16, za ct 0 64), (q17, za ct 0 256), (q18, za ct 1 256), (q19, za ct 0 1280), (q20, za ct 0 16), (q21, za ct 0 4)]) rfl hD (fun hD => ?_)
  refine g_putF (q0 := 0) (ty := .array .int) (w' := [(q, .inr (3, [.ref q1, .ref q2, .ref q3, .ref q4, .ref q5, .ref q6, .ref q7, .ref q8, .ref q9, .ref q10, .int (nI 0), .ref q11, .ref q12, .ref q13, .ref q14, .ref q15, .ref q16, .ref q17, .ref q18, .ref q19, .ref q20, .ref q21, .int (nI 0)])), (q1, za ct 0 4), (q2, za ct 0 4), (q3, za ct 0 4), (q4, za ct 1 4), (q5, za ct 1 4), (q6, za ct 0 4), (q7, za ct 0 4), (q8, za ct 0 4), (q9, za ct 0 16), (q10, za ct 0 16), (q11, za ct 0 16), (q12, za ct 0 64), (q13, za ct 0 256), (q14, za ct 0 1024), (q15, za ct 1 1024), (q16, za ct 0 64), (q17, za ct 0 256), (q18, za ct 1 256), (q19, za ct 0 1280), (q20, za ct 0 16), (q21, za ct 0 4)]) hx hb hts (in_mw in_MD) ty_MD tyo_MD nm_MD hown hK.1 hD rfl rfl 21 (by decide) (hts _ (List.mem_cons_of_mem _ t_336)) rfl hnm rfl (by decide +kernel) rfl rfl (Nat.le_of_ble_eq_true rfl) d_MD_init_166 rfl (fun hD => ?_)
  exact g_nret (blk := fun a => MDB ct q a) (A1 := fun _ => True) hx hb hr hlk d_MD_init_169 (fun i => [0, q1, q2, q3, q4, q5, q6, q7, q8, q9, q10, q11, q12, q13, q14, q15, q16, q17, q18, q19, q20, q21].getD i 0) rfl hD
end
section
theorem Rel.mid {V V1 : VV} (h : Rel V V) (hf : ∀ c k, 69 ≤ c → V1 c k = V c k) : Rel V V1 := h.congr (fun _ _ _ => rfl) hf
theorem Rel.fin {V1 V2 : VV} (h : Rel V1 V2) (hf : ∀ c k, c < 69 → V2 c k = V1 c k) : Rel V2 V2 := h.congr hf (fun _ _ _ => rfl)
theorem fc_send {X : VV} {p x c k : Nat} (hp : p < 4) (hc : 69 ≤ c) : (cSend X p x).2 c k = X c k := by
  unfold cSend
  split
  · rfl
  · split
    · rfl
    · show cpo _ _ _ _ 4 c k = X c k
      rw [cpo_ne (Or.inr hc) hp 4 (Nat.le_refl _)]
      unfold cln
      simp (disch := omega) only [pt_ne]
theorem fc_change {X : VV} {p set c k : Nat} (hp : p < 4) (hc : 69 ≤ c) : (cChange X p set).2 c k = X c k := by
  unfold cChange
  split
  · rfl
  · split
    · rfl
    · show cpo _ _ _ _ 4 c k = X c k
      rw [cpo_ne (Or.inr hc) hp 4 (Nat.le_refl _)]
      unfold csy
      simp (disch := omega) only [pt_ne]
theorem fc_tell {X : VV} {p v c k : Nat} (hp : p < 4) (hc : 69 ≤ c) : (cTell X p v).2 c k = X c k := by
  unfold cTell
  split
  · rfl
  · split
    · rfl
    · split
      · rfl
      · show pt _ _ _ _ c k = X c k
        simp (disch := omega) only [pt_ne]
theorem fc_carry {X : VV} {p q c k : Nat} (hp : p < 4) (hq : q < 4) (hc : 69 ≤ c) : (cCarry X p q).2 c k = X c k := by
  unfold cCarry
  split
  · rfl
  · split
    · show cln _ _ _ _ _ c k = X c k
      unfold cln
      simp (disch := omega) only [pt_ne]
    · show crs _ _ _ _ c k = X c k
      unfold crs
      split
      · unfold csy
        simp (disch := omega) only [pt_ne]
      · rw [crl_ne (by omega)]
        unfold csy
        simp (disch := omega) only [pt_ne]
theorem fc_form {X X' : VV} {set c k : Nat} {r : Int32} (h : cForm X set r X') (hc : 69 ≤ c) : X' c k = X c k := by
  rcases h with ⟨-, -, rfl⟩ | ⟨-, -, -, rfl⟩ | ⟨-, -, -, -, rfl⟩ | ⟨-, -, -, -, rfl⟩
  · rfl
  · rfl
  · rfl
  · rw [cfo_ne (by omega) (fun j hj => by omega) (Nat.le_refl _)]
    simp (disch := omega) only [pt_ne]
theorem fc_d1 {X X' : VV} {p lim c k : Nat} {r : Int32} (hp : p < 4) (h : cd1 X p lim r X') (hc : 69 ≤ c) : X' c k = X c k := by
  rcases h with ⟨-, q, hq, -, -, rfl⟩ | ⟨-, -, rfl⟩
  · unfold cdv
    rw [cev_ne (by omega), pt_ne (by omega)]
  · rfl
theorem fc_step {X X' : VV} {p c k : Nat} {r : Int32} (hp : p < 4) (h : cStep X p r X') (hc : 69 ≤ c) : X' c k = X c k := by
  rcases h with ⟨-, h⟩ | ⟨-, -, -, rfl⟩ | ⟨-, -, -, -, rfl⟩ | ⟨-, -, -, ⟨-, h⟩ | ⟨-, ⟨-, -, rfl⟩ | ⟨-, -, rfl⟩⟩⟩
  · exact fc_d1 hp h hc
  · rfl
  · rfl
  · exact fc_d1 hp h hc
  · rfl
  · unfold cen
    simp (disch := omega) only [pt_ne, cev_ne]
theorem fr_send {Y : VV} {p x c k : Nat} (hc : c < 69) : (rSend Y p x).2 c k = Y c k := by
  unfold rSend
  split
  · rfl
  · split
    · rfl
    · show rpo _ _ _ _ 4 c k = Y c k
      simp (disch := omega) only [rpo_ne, pt_ne, rvc_ne]
theorem fr_change {Y : VV} {p set c k : Nat} (hc : c < 69) : (rChange Y p set).2 c k = Y c k := by
  unfold rChange
  split
  · rfl
  · split
    · rfl
    · show rpo _ _ _ _ 4 c k = Y c k
      simp (disch := omega) only [rpo_ne, pt_ne, rct_ne]
theorem fr_tell {Y : VV} {p v c k : Nat} (hc : c < 69) : (rTell Y p v).2 c k = Y c k := by
  unfold rTell
  split
  · rfl
  · split
    · rfl
    · split
      · rfl
      · show pt _ _ _ _ c k = Y c k
        simp (disch := omega) only [pt_ne]
theorem fr_carry {Y : VV} {p q c k : Nat} (hc : c < 69) : (rCarry Y p q).2 c k = Y c k := by
  unfold rCarry
  split
  · rfl
  · split
    · show pt _ _ _ _ c k = Y c k
      simp (disch := omega) only [pt_ne, rsh_ne]
    · split
      · show pt _ _ _ _ c k = Y c k
        simp (disch := omega) only [pt_ne, rsh_ne]
      · show rkl _ _ _ 4 c k = Y c k
        simp (disch := omega) only [rkl_ne, pt_ne, rsh_ne]
theorem fr_form {Y Y' : VV} {set c k : Nat} {r : Int32} (h : rForm Y set r Y') (hc : c < 69) : Y' c k = Y c k := by
  rcases h with ⟨-, -, rfl⟩ | ⟨-, -, -, rfl⟩ | ⟨-, -, -, -, rfl⟩ | ⟨-, -, -, -, rfl⟩
  · rfl
  · rfl
  · rfl
  · simp (disch := omega) only [rfo_ne, pt_ne]
theorem fr_step {Y Y' : VV} {p c k : Nat} {r : Int32} (hb : BD Y) (h : rStep Y p r Y') (hc : c < 69) : Y' c k = Y c k := by
  obtain ⟨hw, Z, hl, h⟩ := h
  have hs : Z c k = Y c k := (rlim_ok hb hl).1 c k (by omega) (by omega)
  rcases h with ⟨-, -, rfl⟩ | ⟨-, q, -, -, -, -, rfl⟩ | ⟨-, -, -, rfl⟩ | ⟨-, -, -, -, rfl⟩ | ⟨-, -, -, -, rfl⟩
  · exact hs
  · unfold rdv
    rw [rev_ne (by omega), pt_ne (by omega)]
    exact hs
  · exact hs
  · exact hs
  · simp (disch := omega) only [rz4_ne, pt_ne, rev_ne]
    exact hs
section CV
variable {ad : Nat → Nat} {ct : Nat → ClassId}
theorem cv {P : Prop} {r d x : Int32} {w : va_W} {V X1 : VV} (h : (¬ P ∧ r = d ∧ w = gw ad ct V) ∨ (P ∧ r = x ∧ w = gw ad ct X1)) : ∃ V1, w = gw ad ct V1 ∧ ((¬ P ∧ r = d ∧ V1 = V) ∨ (P ∧ r = x ∧ V1 = X1)) := by
  rcases h with ⟨a, b, rfl⟩ | ⟨a, b, rfl⟩
  · exact ⟨V, rfl, Or.inl ⟨a, b, rfl⟩⟩
  · exact ⟨X1, rfl, Or.inr ⟨a, b, rfl⟩⟩
theorem cvS {P : Prop} {r d : Int32} {w : va_W} {V : VV} {S : Int32 → VV → Prop} (h : (¬ P ∧ r = d ∧ w = gw ad ct V) ∨ (P ∧ ∃ X', S r X' ∧ w = gw ad ct X')) : ∃ V1, w = gw ad ct V1 ∧ ((¬ P ∧ r = d ∧ V1 = V) ∨ (P ∧ S r V1)) := by
  rcases h with ⟨a, b, rfl⟩ | ⟨a, X', b, rfl⟩
  · exact ⟨V, rfl, Or.inl ⟨a, b, rfl⟩⟩
  · exact ⟨X', rfl, Or.inr ⟨a, b⟩⟩
theorem cvF {r : Int32} {w : va_W} {S : Int32 → VV → Prop} (h : ∃ X', S r X' ∧ w = gw ad ct X') : ∃ V1, w = gw ad ct V1 ∧ S r V1 := by
  obtain ⟨X', b, rfl⟩ := h
  exact ⟨X', rfl, b⟩
end CV
section LW
variable {V V1 V2 : VV} {r1 r2 : Int32}
theorem law_fn {P : Prop} {d : Int32} {f : VV → Int32 × VV} {g : VV → Int32 × VV} (h : Rel V V) (hfc : P → ∀ c k, 69 ≤ c → (f V).2 c k = V c k) (hfr : ∀ Y : VV, P → ∀ c k, c < 69 → (g Y).2 c k = Y c k) (hs : P → ∀ X Y, Rel X Y → (f X).1 = (g Y).1 ∧ Rel (f X).2 (g Y).2)
    (hc : (¬ P ∧ r1 = d ∧ V1 = V) ∨ (P ∧ r1 = (f V).1 ∧ V1 = (f V).2)) (hr : (¬ P ∧ r2 = d ∧ V2 = V1) ∨ (P ∧ r2 = (g V1).1 ∧ V2 = (g V1).2)) : r1 = r2 ∧ Rel V2 V2 := by
  rcases hc with ⟨a, rfl, rfl⟩ | ⟨a, rfl, rfl⟩ <;> rcases hr with ⟨b, rfl, rfl⟩ | ⟨b, rfl, rfl⟩
  · exact ⟨rfl, h⟩
  · exact absurd b a
  · exact absurd a b
  · obtain ⟨e1, e2⟩ := hs a V (f V).2 (h.mid (hfc a))
    exact ⟨e1, e2.fin (hfr _ a)⟩
theorem mid_fn {P : Prop} {d : Int32} {f : VV → Int32 × VV} (h : Rel V V) (hfc : P → ∀ c k, 69 ≤ c → (f V).2 c k = V c k) (hc : (¬ P ∧ r1 = d ∧ V1 = V) ∨ (P ∧ r1 = (f V).1 ∧ V1 = (f V).2)) : Rel V V1 := by
  rcases hc with ⟨-, -, rfl⟩ | ⟨a, -, rfl⟩
  · exact h
  · exact h.mid (hfc a)
theorem mid_ob {P : Prop} {d x : Int32} (h : Rel V V) (hc : (¬ P ∧ r1 = d ∧ V1 = V) ∨ (P ∧ r1 = x ∧ V1 = V)) : Rel V V1 := by
  rcases hc with ⟨-, -, rfl⟩ | ⟨a, -, rfl⟩ <;> exact h
theorem law_ob {P : Prop} {P' : VV → Prop} {d : Int32} {a : Nat} {b : VV → Nat} (h : Rel V V) (hP : P ↔ P' V) (hab : P → a = b V) (hc : (¬ P ∧ r1 = d ∧ V1 = V) ∨ (P ∧ r1 = nI a ∧ V1 = V)) (hr : (¬ P' V1 ∧ r2 = d ∧ V2 = V1) ∨ (P' V1 ∧ r2 = nI (b V1) ∧ V2 = V1)) : r1 = r2 ∧ Rel V2 V2 := by
  rcases hc with ⟨a1, rfl, rfl⟩ | ⟨a1, rfl, rfl⟩ <;> rcases hr with ⟨b1, rfl, rfl⟩ | ⟨b1, rfl, rfl⟩
  · exact ⟨rfl, h⟩
  · exact absurd (hP.mpr b1) a1
  · exact absurd (hP.mp a1) b1
  · exact ⟨by rw [hab a1], h⟩
theorem mid_form {set : Nat} (h : Rel V V) (hc : cForm V set r1 V1) : Rel V V1 := h.mid (fun _ _ z => fc_form hc z)
theorem law_form {set : Nat} (h : Rel V V) (hc : cForm V set r1 V1) (hr : rForm V1 set r2 V2) : r1 = r2 ∧ Rel V2 V2 := by
  obtain ⟨e1, e2⟩ := sim_form (mid_form h hc) hc hr
  exact ⟨e1, e2.fin (fun _ _ z => fr_form hr z)⟩
theorem mid_step {n : Nat} (h : Rel V V) (hc : (¬ n < 4 ∧ r1 = -1 ∧ V1 = V) ∨ (n < 4 ∧ cStep V n r1 V1)) : Rel V V1 := by
  rcases hc with ⟨-, -, rfl⟩ | ⟨a, b⟩
  · exact h
  · exact h.mid (fun _ _ z => fc_step a b z)
theorem law_step {n : Nat} (h : Rel V V) (hc : (¬ n < 4 ∧ r1 = -1 ∧ V1 = V) ∨ (n < 4 ∧ cStep V n r1 V1)) (hr : (¬ n < 4 ∧ r2 = -1 ∧ V2 = V1) ∨ (n < 4 ∧ rStep V1 n r2 V2)) : r1 = r2 ∧ Rel V2 V2 := by
  have hm := mid_step h hc
  rcases hc with ⟨a, rfl, rfl⟩ | ⟨a, a2⟩ <;> rcases hr with ⟨b, rfl, rfl⟩ | ⟨b, b2⟩
  · exact ⟨rfl, h⟩
  · exact absurd b a
  · exact absurd a b
  · obtain ⟨e1, e2⟩ := sim_step hm a a2 b2
    exact ⟨e1, e2.fin (fun _ _ z => fr_step hm.rb.1 b2 z)⟩
theorem popc_eq {X Y : VV} (h : Rel X Y) {p v q : Nat} (hp : p < 4) (hv : v < 16) (hq : q < 4) : popc (X (5 + 8 * p + 1) (v * 4 + q)) = rcn Y (256 * p + 16 * v + 4 * q) 4 := by
  obtain ⟨k1, k2, k3⟩ := h.2.2.1 p v q hp hv hq
  have a0 := k3 0 (by decide)
  have a1 := k3 1 (by decide)
  have a2 := k3 2 (by decide)
  have a3 := k3 3 (by decide)
  have hb := h.2.2.2.2.2.2.2.2.2.2.2.2.2.2.1
  have b0 := hb (256 * p + 16 * v + 4 * q + 0)
  have b1 := hb (256 * p + 16 * v + 4 * q + 1)
  have b2 := hb (256 * p + 16 * v + 4 * q + 2)
  have b3 := hb (256 * p + 16 * v + 4 * q + 3)
  simp only [Nat.reduceAdd, Nat.reducePow] at a0 a1 a2 a3
  unfold popc
  simp only [rcn]
  rw [k2, a0, a1, a2, a3]
  generalize Y 84 (256 * p + 16 * v + 4 * q + 0) = x0 at *
  generalize Y 84 (256 * p + 16 * v + 4 * q + 1) = x1 at *
  generalize Y 84 (256 * p + 16 * v + 4 * q + 2) = x2 at *
  generalize Y 84 (256 * p + 16 * v + 4 * q + 3) = x3 at *
  split <;> split <;> split <;> split <;> omega
end LW
/-- an int by its 32 bits -/
def cd (x : Int32) : Nat := x.toBitVec.toNat
theorem cd_lt (x : Int32) : cd x < 2 ^ 32 := x.toBitVec.isLt
theorem cd_eq (x : Int32) : x = nI (cd x) := by
  apply Int32.toBitVec_inj.mp
  unfold nI cd
  simp [Int32.toBitVec_ofNat']
theorem q_le3 {L i : Nat} (hL : L < 2 ^ 30) (hi : i < 2 ^ 30) : (nI L - nI 3 < nI i) ↔ L < i + 3 := by
  rw [Int32.lt_iff_toInt_lt, pk_sub_toInt hL (by decide), nI_toInt (by omega)]
  omega
section GS
variable {p : Program} {l : Launch} {e : Env} {R : Room} {s : State} {m : MethodId} {args : Array Value} {below : List Frame} {meth : Method} {c : Code} {D : va_G} {cl : List vw_C} {A : Nat → Prop} {k n : Nat} {Q : State → Prop} {w : va_W} {L : List (Option Value)} {pc : Nat} {st : List Value} {cc : ByteArray}
theorem g_sld (hx : p.tables.exec = Jvm.exec) (hb : c.code = cc) {b N j : Nat} {xs : Nat → Int32} (hX : va_X b N xs s s.heap) (hbl : b < s.heap.size) (hbA : ¬ A b) (hj : j < N) (hN : N < 2 ^ 31) (hd : decode cc pc = .ok (.iaload, 1)) (kk : G p l e R s m args below meth c D cl A k n Q w L (pc + 1) (.int (nI (cd (xs j))) :: st)) : G p l e R s m args below meth c D cl A k n Q w L pc (.int (nI j) :: .ref b :: st) :=
  fun H locs ls hP hS hl => va_sld hx hb hX hbl hbA hS (q_in hj hN) hd (by rw [nI_clamp (Nat.lt_trans hj hN), cd_eq (xs j)]; exact kk H locs ls hP hS hl)
theorem g_slen (hx : p.tables.exec = Jvm.exec) (hb : c.code = cc) {b N : Nat} {xs : Nat → Int32} (hX : va_X b N xs s s.heap) (hbl : b < s.heap.size) (hbA : ¬ A b) (hd : decode cc pc = .ok (.arraylength, 1)) (kk : G p l e R s m args below meth c D cl A k n Q w L (pc + 1) (.int (nI N) :: st)) : G p l e R s m args below meth c D cl A k n Q w L pc (.ref b :: st) :=
  fun H locs ls hP hS hl => va_slen hx hb hX hbl hbA hS hd (kk H locs ls hP hS hl)
end GS
end
