section
-- ===== PART A: goes FIRST, ahead of the names: the tables' words, and 'selects' of the private methods out of them =====
/-- a private method of a class that the tables say can be made, by its rows of tables_1 -/
def lw_okq (q : MethodName × Nat) : Prop := (q.1.cls ≠ "java/lang/invoke/MethodHandle" ∧ q.1.cls ≠ "java/lang/invoke/VarHandle") ∧ Cond.instantiable q.1.cls q.2 ∈ tables_1 ∧ Cond.privateMethod q.1 ∈ tables_1 ∧ Cond.instanceMethod q.1 ∈ tables_1
theorem lw_p0 : lw_okq (⟨"PortDesk$Desk", "answerOrRefuse", "(IIJ)J"⟩, 5) := ⟨⟨by decide +kernel, by decide +kernel⟩, List.mem_of_getElem? (i := 27) (by decide +kernel), List.mem_of_getElem? (i := 215) (by decide +kernel), List.mem_of_getElem? (i := 216) (by decide +kernel)⟩
theorem lw_p1 : lw_okq (⟨"PortDesk$Desk", "refuse", "(I)J"⟩, 5) := ⟨⟨by decide +kernel, by decide +kernel⟩, List.mem_of_getElem? (i := 27) (by decide +kernel), List.mem_of_getElem? (i := 220) (by decide +kernel), List.mem_of_getElem? (i := 221) (by decide +kernel)⟩
theorem lw_p2 : lw_okq (⟨"PortDesk$Desk", "askPart", "(IIJ)J"⟩, 5) := ⟨⟨by decide +kernel, by decide +kernel⟩, List.mem_of_getElem? (i := 27) (by decide +kernel), List.mem_of_getElem? (i := 230) (by decide +kernel), List.mem_of_getElem? (i := 231) (by decide +kernel)⟩
theorem lw_p3 : lw_okq (⟨"PortDesk$Parts", "throwIfTold", "(I)V"⟩, 3) := ⟨⟨by decide +kernel, by decide +kernel⟩, List.mem_of_getElem? (i := 48) (by decide +kernel), List.mem_of_getElem? (i := 247) (by decide +kernel), List.mem_of_getElem? (i := 248) (by decide +kernel)⟩
theorem lw_p4 : lw_okq (⟨"java/lang/Throwable", "fillInStackTrace", "(I)Ljava/lang/Throwable;"⟩, 6) := ⟨⟨by decide +kernel, by decide +kernel⟩, List.mem_of_getElem? (i := 291) (by decide +kernel), List.mem_of_getElem? (i := 289) (by decide +kernel), List.mem_of_getElem? (i := 290) (by decide +kernel)⟩
theorem lw_p5 : lw_okq (⟨"PortDesk", "deskAt", "(I)LPortDesk$Desk;"⟩, 2) := ⟨⟨by decide +kernel, by decide +kernel⟩, List.mem_of_getElem? (i := 19) (by decide +kernel), List.mem_of_getElem? (i := 522) (by decide +kernel), List.mem_of_getElem? (i := 523) (by decide +kernel)⟩
theorem lw_p6 : lw_okq (⟨"PortDeskModel", "refuse", "(I)I"⟩, 11) := ⟨⟨by decide +kernel, by decide +kernel⟩, List.mem_of_getElem? (i := 541) (by decide +kernel), List.mem_of_getElem? (i := 621) (by decide +kernel), List.mem_of_getElem? (i := 622) (by decide +kernel)⟩
theorem lw_p7 : lw_okq (⟨"PortDeskModel", "isKnown", "(II)Z"⟩, 11) := ⟨⟨by decide +kernel, by decide +kernel⟩, List.mem_of_getElem? (i := 541) (by decide +kernel), List.mem_of_getElem? (i := 629) (by decide +kernel), List.mem_of_getElem? (i := 630) (by decide +kernel)⟩
theorem lw_p8 : lw_okq (⟨"PortDeskModel", "goes", "(IIIJ)J"⟩, 11) := ⟨⟨by decide +kernel, by decide +kernel⟩, List.mem_of_getElem? (i := 541) (by decide +kernel), List.mem_of_getElem? (i := 637) (by decide +kernel), List.mem_of_getElem? (i := 638) (by decide +kernel)⟩
theorem lw_p9 : lw_okq (⟨"PortDeskModel", "writes", "(IJI)J"⟩, 11) := ⟨⟨by decide +kernel, by decide +kernel⟩, List.mem_of_getElem? (i := 541) (by decide +kernel), List.mem_of_getElem? (i := 641) (by decide +kernel), List.mem_of_getElem? (i := 642) (by decide +kernel)⟩
def lw_privs_1 : List (MethodName × Nat) := [(⟨"PortDesk$Desk", "answerOrRefuse", "(IIJ)J"⟩, 5), (⟨"PortDesk$Desk", "refuse", "(I)J"⟩, 5), (⟨"PortDesk$Desk", "askPart", "(IIJ)J"⟩, 5), (⟨"PortDesk$Parts", "throwIfTold", "(I)V"⟩, 3), (⟨"java/lang/Throwable", "fillInStackTrace", "(I)Ljava/lang/Throwable;"⟩, 6), (⟨"PortDesk", "deskAt", "(I)LPortDesk$Desk;"⟩, 2), (⟨"PortDeskModel", "refuse", "(I)I"⟩, 11), (⟨"PortDeskModel", "isKnown", "(II)Z"⟩, 11), (⟨"PortDeskModel", "goes", "(IIIJ)J"⟩, 11), (⟨"PortDeskModel", "writes", "(IJI)J"⟩, 11)]
theorem lw_r1 : ∀ q ∈ lw_privs_1, lw_okq q := List.forall_mem_cons.mpr ⟨lw_p0, List.forall_mem_cons.mpr ⟨lw_p1, List.forall_mem_cons.mpr ⟨lw_p2, List.forall_mem_cons.mpr ⟨lw_p3, List.forall_mem_cons.mpr ⟨lw_p4, List.forall_mem_cons.mpr ⟨lw_p5, List.forall_mem_cons.mpr ⟨lw_p6, List.forall_mem_cons.mpr ⟨lw_p7, List.forall_mem_cons.mpr ⟨lw_p8, List.forall_mem_cons.mpr ⟨lw_p9, fun _ h => absurd h List.not_mem_nil⟩⟩⟩⟩⟩⟩⟩⟩⟩⟩
def lw_privs : List (MethodName × Nat) := lw_privs_1
def lw_tbl : List Cond := k2_sels lw_privs ++ tables_1
theorem lw_privs_ok : ∀ q ∈ lw_privs, lw_okq q := lw_r1
/-! ===== my own names, by program out of the Statement ===== -/
/-- the words that stay: those of the tables that a warmed machine keeps -/
def wsA : List Cond := lw_tbl.filter goodWord
theorem wa (i : Nat) {w : Cond} (h : lw_tbl[i]? = some w) (hg : goodWord w = true) : w ∈ wsA := List.mem_filter.mpr ⟨List.mem_of_getElem? h, hg⟩
theorem wa_good : ∀ w ∈ wsA, (w.onTables && w.keeps) = true ∨ ∃ ty, w = .arrayClass ty := fun w h => good_of_word (List.mem_filter.mp h).2
def RCV : String := "PortDesk$CollectedValues"
def TCV : u_T := fun k => match k with
  | 0 => ("PortDesk$CollectedValues", "sizes", "[I", true)
  | _ => ("PortDesk$CollectedValues", "values", "[[J", true)
def tyCV : Nat → FieldType := fun k => match k with
  | 0 => .array .int
  | _ => .array (.array .long)
theorem nmCV : ∀ a, a < 2 → ∀ b, b < 2 → a ≠ b → (TCV a).2.1 ≠ (TCV b).2.1 := by decide +kernel
theorem tyCV_ok : ∀ k, k < 2 → parseFieldDescriptor (TCV k).2.2.1 = some (tyCV k) := by decide +kernel
theorem inCV : ∀ w ∈ u_ws RCV TCV 2, w ∈ wsA := by decide +kernel
def RDK : String := "PortDesk$Desk"
def TDK : u_T := fun k => match k with
  | 0 => ("PortDesk$Desk", "numbers", "LPortDesk$Numbers;", true)
  | 1 => ("PortDesk$Desk", "parts", "LPortDesk$Parts;", true)
  | 2 => ("PortDesk$Desk", "tally", "LPortDesk$Tally;", true)
  | 3 => ("PortDesk$Desk", "collection", "LPortDesk$CollectedValues;", true)
  | _ => ("PortDesk$Desk", "journal", "LPortDesk$Journal;", true)
def tyDK : Nat → FieldType := fun k => match k with
  | 0 => .object "PortDesk$Numbers"
  | 1 => .object "PortDesk$Parts"
  | 2 => .object "PortDesk$Tally"
  | 3 => .object "PortDesk$CollectedValues"
  | _ => .object "PortDesk$Journal"
theorem nmDK : ∀ a, a < 5 → ∀ b, b < 5 → a ≠ b → (TDK a).2.1 ≠ (TDK b).2.1 := by decide +kernel
theorem tyDK_ok : ∀ k, k < 5 → parseFieldDescriptor (TDK k).2.2.1 = some (tyDK k) := by decide +kernel
theorem inDK : ∀ w ∈ u_ws RDK TDK 5, w ∈ wsA := by decide +kernel
def RJN : String := "PortDesk$Journal"
def TJN : u_T := fun k => match k with
  | 0 => ("PortDesk$Journal", "ring", "[J", true)
  | 1 => ("PortDesk$Journal", "size", "I", false)
  | _ => ("PortDesk$Journal", "next", "I", false)
def tyJN : Nat → FieldType := fun k => match k with
  | 0 => .array .long
  | 1 => .int
  | _ => .int
theorem nmJN : ∀ a, a < 3 → ∀ b, b < 3 → a ≠ b → (TJN a).2.1 ≠ (TJN b).2.1 := by decide +kernel
theorem tyJN_ok : ∀ k, k < 3 → parseFieldDescriptor (TJN k).2.2.1 = some (tyJN k) := by decide +kernel
theorem inJN : ∀ w ∈ u_ws RJN TJN 3, w ∈ wsA := by decide +kernel
def RNU : String := "PortDesk$Numbers"
def TNU : u_T := fun k => match k with
  | 0 => ("PortDesk$Numbers", "made", "[I", true)
  | _ => ("PortDesk$Numbers", "known", "[J", true)
def tyNU : Nat → FieldType := fun k => match k with
  | 0 => .array .int
  | _ => .array .long
theorem nmNU : ∀ a, a < 2 → ∀ b, b < 2 → a ≠ b → (TNU a).2.1 ≠ (TNU b).2.1 := by decide +kernel
theorem tyNU_ok : ∀ k, k < 2 → parseFieldDescriptor (TNU k).2.2.1 = some (tyNU k) := by decide +kernel
theorem inNU : ∀ w ∈ u_ws RNU TNU 2, w ∈ wsA := by decide +kernel
def RPT : String := "PortDesk$Parts"
def TPT : u_T := fun k => match k with
  | 0 => ("PortDesk$Parts", "answers", "[J", true)
  | 1 => ("PortDesk$Parts", "sums", "[J", true)
  | _ => ("PortDesk$Parts", "failures", "[I", true)
def tyPT : Nat → FieldType := fun k => match k with
  | 0 => .array .long
  | 1 => .array .long
  | _ => .array .int
theorem nmPT : ∀ a, a < 3 → ∀ b, b < 3 → a ≠ b → (TPT a).2.1 ≠ (TPT b).2.1 := by decide +kernel
theorem tyPT_ok : ∀ k, k < 3 → parseFieldDescriptor (TPT k).2.2.1 = some (tyPT k) := by decide +kernel
theorem inPT : ∀ w ∈ u_ws RPT TPT 3, w ∈ wsA := by decide +kernel
def RTL : String := "PortDesk$Tally"
def TTL : u_T := fun k => match k with
  | _ => ("PortDesk$Tally", "facts", "[J", true)
def tyTL : Nat → FieldType := fun k => match k with
  | _ => .array .long
theorem nmTL : ∀ a, a < 1 → ∀ b, b < 1 → a ≠ b → (TTL a).2.1 ≠ (TTL b).2.1 := by decide +kernel
theorem tyTL_ok : ∀ k, k < 1 → parseFieldDescriptor (TTL k).2.2.1 = some (tyTL k) := by decide +kernel
theorem inTL : ∀ w ∈ u_ws RTL TTL 1, w ∈ wsA := by decide +kernel
def RPD : String := "PortDesk"
def TPD : u_T := fun k => match k with
  | 0 => ("PortDesk", "first", "LPortDesk$Desk;", true)
  | _ => ("PortDesk", "second", "LPortDesk$Desk;", true)
def tyPD : Nat → FieldType := fun k => match k with
  | 0 => .object "PortDesk$Desk"
  | _ => .object "PortDesk$Desk"
theorem nmPD : ∀ a, a < 2 → ∀ b, b < 2 → a ≠ b → (TPD a).2.1 ≠ (TPD b).2.1 := by decide +kernel
theorem tyPD_ok : ∀ k, k < 2 → parseFieldDescriptor (TPD k).2.2.1 = some (tyPD k) := by decide +kernel
theorem inPD : ∀ w ∈ u_ws RPD TPD 2, w ∈ wsA := by decide +kernel
def RMO : String := "PortDeskModel"
def TMO : u_T := fun k => match k with
  | 0 => ("PortDeskModel", "thrown", "I", false)
  | 1 => ("PortDeskModel", "made", "[I", true)
  | 2 => ("PortDeskModel", "dropped", "[Z", true)
  | 3 => ("PortDeskModel", "answers", "[J", true)
  | 4 => ("PortDeskModel", "failing", "[I", true)
  | 5 => ("PortDeskModel", "sums", "[J", true)
  | 6 => ("PortDeskModel", "logged", "[I", true)
  | 7 => ("PortDeskModel", "log", "[J", true)
  | 8 => ("PortDeskModel", "told", "[J", true)
  | 9 => ("PortDeskModel", "many", "[I", true)
  | _ => ("PortDeskModel", "values", "[J", true)
def tyMO : Nat → FieldType := fun k => match k with
  | 0 => .int
  | 1 => .array .int
  | 2 => .array .boolean
  | 3 => .array .long
  | 4 => .array .int
  | 5 => .array .long
  | 6 => .array .int
  | 7 => .array .long
  | 8 => .array .long
  | 9 => .array .int
  | _ => .array .long
theorem nmMO : ∀ a, a < 11 → ∀ b, b < 11 → a ≠ b → (TMO a).2.1 ≠ (TMO b).2.1 := by decide +kernel
theorem tyMO_ok : ∀ k, k < 11 → parseFieldDescriptor (TMO k).2.2.1 = some (tyMO k) := by decide +kernel
theorem inMO : ∀ w ∈ u_ws RMO TMO 11, w ∈ wsA := by decide +kernel
def RLG : String := "java/lang/Long"
def RLW : String := "PortDeskLaw"
abbrev cPD_init : ByteArray := prog_1_method_1_code
def yPD_init : MethodName := ⟨RPD, "<init>", "()V"⟩
abbrev cDK_init : ByteArray := prog_3_method_1_code
def yDK_init : MethodName := ⟨RDK, "<init>", "()V"⟩
abbrev cNU_init : ByteArray := prog_5_method_1_code
def yNU_init : MethodName := ⟨RNU, "<init>", "()V"⟩
abbrev cPT_init : ByteArray := prog_6_method_1_code
def yPT_init : MethodName := ⟨RPT, "<init>", "()V"⟩
abbrev cTL_init : ByteArray := prog_7_method_1_code
def yTL_init : MethodName := ⟨RTL, "<init>", "()V"⟩
abbrev cCV_init : ByteArray := prog_2_method_1_code
def yCV_init : MethodName := ⟨RCV, "<init>", "()V"⟩
abbrev cJN_init : ByteArray := prog_4_method_1_code
def yJN_init : MethodName := ⟨RJN, "<init>", "()V"⟩
abbrev cPD_collect : ByteArray := prog_1_method_2_code
def yPD_collect : MethodName := ⟨RPD, "collect", "(IJ)I"⟩
abbrev cCV_canHold : ByteArray := prog_2_method_2_code
def yCV_canHold : MethodName := ⟨RCV, "canHold", "(IJ)Z"⟩
abbrev cCV_isFull : ByteArray := prog_2_method_3_code
def yCV_isFull : MethodName := ⟨RCV, "isFull", "(I)Z"⟩
abbrev cDK_take : ByteArray := prog_3_method_2_code
def yDK_take : MethodName := ⟨RDK, "take", "(IJ)I"⟩
abbrev cNU_isFull : ByteArray := prog_5_method_2_code
def yNU_isFull : MethodName := ⟨RNU, "isFull", "(I)Z"⟩
abbrev cNU_makeNext : ByteArray := prog_5_method_3_code
def yNU_makeNext : MethodName := ⟨RNU, "makeNext", "(I)I"⟩
abbrev cNU_bitOf : ByteArray := prog_5_method_10_code
def yNU_bitOf : MethodName := ⟨RNU, "bitOf", "(I)J"⟩
abbrev cCV_add : ByteArray := prog_2_method_4_code
def yCV_add : MethodName := ⟨RCV, "add", "(IJ)I"⟩
abbrev cPD_answer : ByteArray := prog_1_method_3_code
def yPD_answer : MethodName := ⟨RPD, "answer", "(IJ)Z"⟩
abbrev cPD_isPart : ByteArray := prog_1_method_19_code
def yPD_isPart : MethodName := ⟨RPD, "isPart", "(I)Z"⟩
abbrev cPT_setAnswer : ByteArray := prog_6_method_2_code
def yPT_setAnswer : MethodName := ⟨RPT, "setAnswer", "(IJ)V"⟩
abbrev cPD_fails : ByteArray := prog_1_method_4_code
def yPD_fails : MethodName := ⟨RPD, "fails", "(II)Z"⟩
abbrev cPT_setFailure : ByteArray := prog_6_method_3_code
def yPT_setFailure : MethodName := ⟨RPT, "setFailure", "(II)V"⟩
abbrev cPD_drop : ByteArray := prog_1_method_6_code
def yPD_drop : MethodName := ⟨RPD, "drop", "(II)Z"⟩
abbrev cPD_isKind : ByteArray := prog_1_method_18_code
def yPD_isKind : MethodName := ⟨RPD, "isKind", "(I)Z"⟩
abbrev cNU_isKnown : ByteArray := prog_5_method_6_code
def yNU_isKnown : MethodName := ⟨RNU, "isKnown", "(II)Z"⟩
abbrev cNU_wasMade : ByteArray := prog_5_method_5_code
def yNU_wasMade : MethodName := ⟨RNU, "wasMade", "(II)Z"⟩
abbrev cNU_forget : ByteArray := prog_5_method_4_code
def yNU_forget : MethodName := ⟨RNU, "forget", "(II)V"⟩
abbrev cPD_call : ByteArray := prog_1_method_7_code
def yPD_call : MethodName := ⟨RPD, "call", "(IIJ)J"⟩
abbrev cDK_ask : ByteArray := prog_3_method_3_code
def yDK_ask : MethodName := ⟨RDK, "ask", "(IIJ)J"⟩
abbrev cDK_answerOrRefuse : ByteArray := prog_3_method_4_code
def yDK_answerOrRefuse : MethodName := ⟨RDK, "answerOrRefuse", "(IIJ)J"⟩
abbrev cDK_refuse : ByteArray := prog_3_method_5_code
def yDK_refuse : MethodName := ⟨RDK, "refuse", "(I)J"⟩
abbrev cTL_countRefused : ByteArray := prog_7_method_3_code
def yTL_countRefused : MethodName := ⟨RTL, "countRefused", "(I)V"⟩
abbrev cDK_askPart : ByteArray := prog_3_method_6_code
def yDK_askPart : MethodName := ⟨RDK, "askPart", "(IIJ)J"⟩
abbrev cPT_sumOf : ByteArray := prog_6_method_4_code
def yPT_sumOf : MethodName := ⟨RPT, "sumOf", "(I)J"⟩
abbrev cPT_answerTo : ByteArray := prog_6_method_6_code
def yPT_answerTo : MethodName := ⟨RPT, "answerTo", "(IIJ)J"⟩
abbrev cPT_throwIfTold : ByteArray := prog_6_method_7_code
def yPT_throwIfTold : MethodName := ⟨RPT, "throwIfTold", "(I)V"⟩
abbrev cPT_restoreSum : ByteArray := prog_6_method_5_code
def yPT_restoreSum : MethodName := ⟨RPT, "restoreSum", "(IJ)V"⟩
abbrev cTL_countFailure : ByteArray := prog_7_method_4_code
def yTL_countFailure : MethodName := ⟨RTL, "countFailure", "(III)V"⟩
abbrev cTL_countAnswered : ByteArray := prog_7_method_2_code
def yTL_countAnswered : MethodName := ⟨RTL, "countAnswered", "()V"⟩
abbrev cJN_write : ByteArray := prog_4_method_2_code
def yJN_write : MethodName := ⟨RJN, "write", "(J)V"⟩
abbrev cPD_again : ByteArray := prog_1_method_8_code
def yPD_again : MethodName := ⟨RPD, "again", "(IIJ)J"⟩
abbrev cPD_numbers : ByteArray := prog_1_method_10_code
def yPD_numbers : MethodName := ⟨RPD, "numbers", "(I)I"⟩
abbrev cNU_countKnown : ByteArray := prog_5_method_7_code
def yNU_countKnown : MethodName := ⟨RNU, "countKnown", "(I)I"⟩
abbrev cLG_bitCount : ByteArray := prog_15_method_50_code
def yLG_bitCount : MethodName := ⟨RLG, "bitCount", "(J)I"⟩
abbrev cPD_same : ByteArray := prog_1_method_15_code
def yPD_same : MethodName := ⟨RPD, "same", "()Z"⟩
abbrev cDK_isLike : ByteArray := prog_3_method_7_code
def yDK_isLike : MethodName := ⟨RDK, "isLike", "(LPortDesk$Desk;)Z"⟩
abbrev cNU_isLike : ByteArray := prog_5_method_9_code
def yNU_isLike : MethodName := ⟨RNU, "isLike", "(LPortDesk$Numbers;)Z"⟩
abbrev cPT_hasSumsOf : ByteArray := prog_6_method_8_code
def yPT_hasSumsOf : MethodName := ⟨RPT, "hasSumsOf", "(LPortDesk$Parts;)Z"⟩
abbrev cJN_isLike : ByteArray := prog_4_method_5_code
def yJN_isLike : MethodName := ⟨RJN, "isLike", "(LPortDesk$Journal;)Z"⟩
abbrev cJN_entryAt : ByteArray := prog_4_method_4_code
def yJN_entryAt : MethodName := ⟨RJN, "entryAt", "(I)J"⟩
abbrev cTL_isLike : ByteArray := prog_7_method_6_code
def yTL_isLike : MethodName := ⟨RTL, "isLike", "(LPortDesk$Tally;)Z"⟩
abbrev cCV_isLike : ByteArray := prog_2_method_7_code
def yCV_isLike : MethodName := ⟨RCV, "isLike", "(LPortDesk$CollectedValues;)Z"⟩
abbrev cLW_make : ByteArray := method_3_code
def yLW_make : MethodName := ⟨RLW, "make", "(LPortDesk;I[J)I"⟩
abbrev cPD_make : ByteArray := prog_1_method_5_code
def yPD_make : MethodName := ⟨RPD, "make", "(I)I"⟩
abbrev cLW_told : ByteArray := method_4_code
def yLW_told : MethodName := ⟨RLW, "told", "(LPortDesk;I[J)I"⟩
abbrev cPD_told : ByteArray := prog_1_method_9_code
def yPD_told : MethodName := ⟨RPD, "told", "(I)J"⟩
abbrev cTL_fact : ByteArray := prog_7_method_5_code
def yTL_fact : MethodName := ⟨RTL, "fact", "(I)J"⟩
abbrev cLW_number : ByteArray := method_5_code
def yLW_number : MethodName := ⟨RLW, "number", "(LPortDesk;II[J)I"⟩
abbrev cPD_number : ByteArray := prog_1_method_11_code
def yPD_number : MethodName := ⟨RPD, "number", "(II)I"⟩
abbrev cNU_knownAt : ByteArray := prog_5_method_8_code
def yNU_knownAt : MethodName := ⟨RNU, "knownAt", "(II)I"⟩
abbrev cLW_collected : ByteArray := method_6_code
def yLW_collected : MethodName := ⟨RLW, "collected", "(LPortDesk;II[J)I"⟩
abbrev cPD_collected : ByteArray := prog_1_method_12_code
def yPD_collected : MethodName := ⟨RPD, "collected", "(II)J"⟩
abbrev cCV_size : ByteArray := prog_2_method_5_code
def yCV_size : MethodName := ⟨RCV, "size", "(I)I"⟩
abbrev cCV_valueAt : ByteArray := prog_2_method_6_code
def yCV_valueAt : MethodName := ⟨RCV, "valueAt", "(II)J"⟩
abbrev cLW_log : ByteArray := method_7_code
def yLW_log : MethodName := ⟨RLW, "log", "(LPortDesk;II[J)I"⟩
abbrev cPD_log : ByteArray := prog_1_method_13_code
def yPD_log : MethodName := ⟨RPD, "log", "(II)J"⟩
abbrev cPD_isDesk : ByteArray := prog_1_method_17_code
def yPD_isDesk : MethodName := ⟨RPD, "isDesk", "(I)Z"⟩
abbrev cPD_deskAt : ByteArray := prog_1_method_16_code
def yPD_deskAt : MethodName := ⟨RPD, "deskAt", "(I)LPortDesk$Desk;"⟩
abbrev cJN_size : ByteArray := prog_4_method_3_code
def yJN_size : MethodName := ⟨RJN, "size", "()I"⟩
abbrev cLW_sum : ByteArray := method_8_code
def yLW_sum : MethodName := ⟨RLW, "sum", "(LPortDesk;II[J)I"⟩
abbrev cPD_sum : ByteArray := prog_1_method_14_code
def yPD_sum : MethodName := ⟨RPD, "sum", "(II)J"⟩
abbrev cMO_init : ByteArray := prog_9_method_1_code
def yMO_init : MethodName := ⟨RMO, "<init>", "()V"⟩
abbrev cMO_thrown : ByteArray := prog_9_method_2_code
def yMO_thrown : MethodName := ⟨RMO, "thrown", "()I"⟩
abbrev cMO_collect : ByteArray := prog_9_method_8_code
def yMO_collect : MethodName := ⟨RMO, "collect", "(IJ)I"⟩
abbrev cMO_in : ByteArray := prog_9_method_4_code
def yMO_in : MethodName := ⟨RMO, "in", "(JJJ)Z"⟩
abbrev cMO_fits : ByteArray := prog_9_method_7_code
def yMO_fits : MethodName := ⟨RMO, "fits", "(IJ)Z"⟩
abbrev cMO_answer : ByteArray := prog_9_method_9_code
def yMO_answer : MethodName := ⟨RMO, "answer", "(IJ)Z"⟩
abbrev cMO_isPart : ByteArray := prog_9_method_5_code
def yMO_isPart : MethodName := ⟨RMO, "isPart", "(I)Z"⟩
abbrev cMO_fails : ByteArray := prog_9_method_10_code
def yMO_fails : MethodName := ⟨RMO, "fails", "(II)Z"⟩
abbrev cMO_make : ByteArray := prog_9_method_11_code
def yMO_make : MethodName := ⟨RMO, "make", "(I)I"⟩
abbrev cMO_isKind : ByteArray := prog_9_method_6_code
def yMO_isKind : MethodName := ⟨RMO, "isKind", "(I)Z"⟩
abbrev cMO_refuse : ByteArray := prog_9_method_3_code
def yMO_refuse : MethodName := ⟨RMO, "refuse", "(I)I"⟩
abbrev cMO_drop : ByteArray := prog_9_method_13_code
def yMO_drop : MethodName := ⟨RMO, "drop", "(II)Z"⟩
abbrev cMO_isKnown : ByteArray := prog_9_method_12_code
def yMO_isKnown : MethodName := ⟨RMO, "isKnown", "(II)Z"⟩
abbrev cMO_call : ByteArray := prog_9_method_16_code
def yMO_call : MethodName := ⟨RMO, "call", "(IIJ)J"⟩
abbrev cMO_goes : ByteArray := prog_9_method_15_code
def yMO_goes : MethodName := ⟨RMO, "goes", "(IIIJ)J"⟩
abbrev cMO_writes : ByteArray := prog_9_method_14_code
def yMO_writes : MethodName := ⟨RMO, "writes", "(IJI)J"⟩
abbrev cMO_again : ByteArray := prog_9_method_17_code
def yMO_again : MethodName := ⟨RMO, "again", "(IIJ)J"⟩
abbrev cMO_told : ByteArray := prog_9_method_18_code
def yMO_told : MethodName := ⟨RMO, "told", "(I)J"⟩
abbrev cMO_numbers : ByteArray := prog_9_method_19_code
def yMO_numbers : MethodName := ⟨RMO, "numbers", "(I)I"⟩
abbrev cMO_number : ByteArray := prog_9_method_20_code
def yMO_number : MethodName := ⟨RMO, "number", "(II)I"⟩
abbrev cMO_collected : ByteArray := prog_9_method_21_code
def yMO_collected : MethodName := ⟨RMO, "collected", "(II)J"⟩
abbrev cMO_log : ByteArray := prog_9_method_22_code
def yMO_log : MethodName := ⟨RMO, "log", "(II)J"⟩
abbrev cMO_sum : ByteArray := prog_9_method_23_code
def yMO_sum : MethodName := ⟨RMO, "sum", "(II)J"⟩
abbrev cMO_same : ByteArray := prog_9_method_24_code
def yMO_same : MethodName := ⟨RMO, "same", "()Z"⟩
abbrev cLW_law : ByteArray := code
def yLW_law : MethodName := ⟨RLW, "law", "([I)Z"⟩
abbrev wsPD_init : List Cond := Cond.code yPD_init cPD_init 1 none :: wsA
abbrev wsDK_init : List Cond := Cond.code yDK_init cDK_init 1 none :: wsA
abbrev wsNU_init : List Cond := Cond.code yNU_init cNU_init 1 none :: wsA
abbrev wsPT_init : List Cond := Cond.code yPT_init cPT_init 1 none :: wsA
abbrev wsTL_init : List Cond := Cond.code yTL_init cTL_init 1 none :: wsA
abbrev wsCV_init : List Cond := Cond.code yCV_init cCV_init 1 none :: wsA
abbrev wsJN_init : List Cond := Cond.code yJN_init cJN_init 1 none :: wsA
abbrev wsPD_collect : List Cond := Cond.code yPD_collect cPD_collect 4 (some .int) :: wsA
abbrev wsCV_canHold : List Cond := Cond.code yCV_canHold cCV_canHold 3 (some .boolean) :: wsA
abbrev wsCV_isFull : List Cond := Cond.code yCV_isFull cCV_isFull 2 (some .boolean) :: wsA
abbrev wsDK_take : List Cond := Cond.code yDK_take cDK_take 4 (some .int) :: wsA
abbrev wsNU_isFull : List Cond := Cond.code yNU_isFull cNU_isFull 2 (some .boolean) :: wsA
abbrev wsNU_makeNext : List Cond := Cond.code yNU_makeNext cNU_makeNext 2 (some .int) :: wsA
abbrev wsNU_bitOf : List Cond := Cond.code yNU_bitOf cNU_bitOf 1 (some .long) :: wsA
abbrev wsCV_add : List Cond := Cond.code yCV_add cCV_add 4 (some .int) :: wsA
abbrev wsPD_answer : List Cond := Cond.code yPD_answer cPD_answer 4 (some .boolean) :: wsA
abbrev wsPD_isPart : List Cond := Cond.code yPD_isPart cPD_isPart 1 (some .boolean) :: wsA
abbrev wsPT_setAnswer : List Cond := Cond.code yPT_setAnswer cPT_setAnswer 4 none :: wsA
abbrev wsPD_fails : List Cond := Cond.code yPD_fails cPD_fails 3 (some .boolean) :: wsA
abbrev wsPT_setFailure : List Cond := Cond.code yPT_setFailure cPT_setFailure 3 none :: wsA
abbrev wsPD_drop : List Cond := Cond.code yPD_drop cPD_drop 3 (some .boolean) :: wsA
abbrev wsPD_isKind : List Cond := Cond.code yPD_isKind cPD_isKind 1 (some .boolean) :: wsA
abbrev wsNU_isKnown : List Cond := Cond.code yNU_isKnown cNU_isKnown 3 (some .boolean) :: wsA
abbrev wsNU_wasMade : List Cond := Cond.code yNU_wasMade cNU_wasMade 3 (some .boolean) :: wsA
abbrev wsNU_forget : List Cond := Cond.code yNU_forget cNU_forget 3 none :: wsA
abbrev wsPD_call : List Cond := Cond.code yPD_call cPD_call 5 (some .long) :: wsA
abbrev wsDK_ask : List Cond := Cond.code yDK_ask cDK_ask 7 (some .long) :: wsA
abbrev wsDK_answerOrRefuse : List Cond := Cond.code yDK_answerOrRefuse cDK_answerOrRefuse 6 (some .long) :: wsA
abbrev wsDK_refuse : List Cond := Cond.code yDK_refuse cDK_refuse 2 (some .long) :: wsA
abbrev wsTL_countRefused : List Cond := Cond.code yTL_countRefused cTL_countRefused 2 none :: wsA
abbrev wsDK_askPart : List Cond := Cond.codeWith yDK_askPart cDK_askPart 11 (some .long) [(16, 28, 31, 93), (16, 28, 39, 95), (16, 28, 47, 97), (16, 28, 55, 99), (16, 28, 63, 101)] :: wsA
abbrev wsPT_sumOf : List Cond := Cond.code yPT_sumOf cPT_sumOf 2 (some .long) :: wsA
abbrev wsPT_answerTo : List Cond := Cond.code yPT_answerTo cPT_answerTo 5 (some .long) :: wsA
abbrev wsPT_throwIfTold : List Cond := Cond.code yPT_throwIfTold cPT_throwIfTold 3 none :: wsA
abbrev wsPT_restoreSum : List Cond := Cond.code yPT_restoreSum cPT_restoreSum 4 none :: wsA
abbrev wsTL_countFailure : List Cond := Cond.code yTL_countFailure cTL_countFailure 4 none :: wsA
abbrev wsTL_countAnswered : List Cond := Cond.code yTL_countAnswered cTL_countAnswered 1 none :: wsA
abbrev wsJN_write : List Cond := Cond.code yJN_write cJN_write 3 none :: wsA
abbrev wsPD_again : List Cond := Cond.code yPD_again cPD_again 5 (some .long) :: wsA
abbrev wsPD_numbers : List Cond := Cond.code yPD_numbers cPD_numbers 2 (some .int) :: wsA
abbrev wsNU_countKnown : List Cond := Cond.code yNU_countKnown cNU_countKnown 2 (some .int) :: wsA
abbrev wsLG_bitCount : List Cond := Cond.code yLG_bitCount cLG_bitCount 2 (some .int) :: wsA
abbrev wsPD_same : List Cond := Cond.code yPD_same cPD_same 1 (some .boolean) :: wsA
abbrev wsDK_isLike : List Cond := Cond.code yDK_isLike cDK_isLike 2 (some .boolean) :: wsA
abbrev wsNU_isLike : List Cond := Cond.code yNU_isLike cNU_isLike 3 (some .boolean) :: wsA
abbrev wsPT_hasSumsOf : List Cond := Cond.code yPT_hasSumsOf cPT_hasSumsOf 3 (some .boolean) :: wsA
abbrev wsJN_isLike : List Cond := Cond.code yJN_isLike cJN_isLike 3 (some .boolean) :: wsA
abbrev wsJN_entryAt : List Cond := Cond.code yJN_entryAt cJN_entryAt 2 (some .long) :: wsA
abbrev wsTL_isLike : List Cond := Cond.code yTL_isLike cTL_isLike 3 (some .boolean) :: wsA
abbrev wsCV_isLike : List Cond := Cond.code yCV_isLike cCV_isLike 4 (some .boolean) :: wsA
abbrev wsLW_make : List Cond := Cond.codeWith yLW_make cLW_make 4 (some .int) [(0, 9, 12, 13), (0, 9, 15, 15)] :: wsA
abbrev wsPD_make : List Cond := Cond.code yPD_make cPD_make 2 (some .int) :: wsA
abbrev wsLW_told : List Cond := Cond.codeWith yLW_told cLW_told 4 (some .int) [(0, 8, 11, 21)] :: wsA
abbrev wsPD_told : List Cond := Cond.code yPD_told cPD_told 2 (some .long) :: wsA
abbrev wsTL_fact : List Cond := Cond.code yTL_fact cTL_fact 2 (some .long) :: wsA
abbrev wsLW_number : List Cond := Cond.codeWith yLW_number cLW_number 5 (some .int) [(0, 10, 13, 13)] :: wsA
abbrev wsPD_number : List Cond := Cond.code yPD_number cPD_number 3 (some .int) :: wsA
abbrev wsNU_knownAt : List Cond := Cond.code yNU_knownAt cNU_knownAt 5 (some .int) :: wsA
abbrev wsLW_collected : List Cond := Cond.codeWith yLW_collected cLW_collected 5 (some .int) [(0, 9, 12, 21)] :: wsA
abbrev wsPD_collected : List Cond := Cond.code yPD_collected cPD_collected 3 (some .long) :: wsA
abbrev wsCV_size : List Cond := Cond.code yCV_size cCV_size 2 (some .int) :: wsA
abbrev wsCV_valueAt : List Cond := Cond.code yCV_valueAt cCV_valueAt 3 (some .long) :: wsA
abbrev wsLW_log : List Cond := Cond.codeWith yLW_log cLW_log 5 (some .int) [(0, 9, 12, 21)] :: wsA
abbrev wsPD_log : List Cond := Cond.code yPD_log cPD_log 3 (some .long) :: wsA
abbrev wsPD_isDesk : List Cond := Cond.code yPD_isDesk cPD_isDesk 1 (some .boolean) :: wsA
abbrev wsPD_deskAt : List Cond := Cond.code yPD_deskAt cPD_deskAt 2 (some (.object "PortDesk$Desk")) :: wsA
abbrev wsJN_size : List Cond := Cond.code yJN_size cJN_size 1 (some .int) :: wsA
abbrev wsLW_sum : List Cond := Cond.codeWith yLW_sum cLW_sum 5 (some .int) [(0, 9, 12, 13)] :: wsA
abbrev wsPD_sum : List Cond := Cond.code yPD_sum cPD_sum 3 (some .long) :: wsA
abbrev wsMO_init : List Cond := Cond.code yMO_init cMO_init 1 none :: wsA
abbrev wsMO_thrown : List Cond := Cond.code yMO_thrown cMO_thrown 1 (some .int) :: wsA
abbrev wsMO_collect : List Cond := Cond.code yMO_collect cMO_collect 4 (some .int) :: wsA
abbrev wsMO_in : List Cond := Cond.code yMO_in cMO_in 6 (some .boolean) :: wsA
abbrev wsMO_fits : List Cond := Cond.code yMO_fits cMO_fits 3 (some .boolean) :: wsA
abbrev wsMO_answer : List Cond := Cond.code yMO_answer cMO_answer 4 (some .boolean) :: wsA
abbrev wsMO_isPart : List Cond := Cond.code yMO_isPart cMO_isPart 1 (some .boolean) :: wsA
abbrev wsMO_fails : List Cond := Cond.code yMO_fails cMO_fails 3 (some .boolean) :: wsA
abbrev wsMO_make : List Cond := Cond.code yMO_make cMO_make 2 (some .int) :: wsA
abbrev wsMO_isKind : List Cond := Cond.code yMO_isKind cMO_isKind 1 (some .boolean) :: wsA
abbrev wsMO_refuse : List Cond := Cond.code yMO_refuse cMO_refuse 2 (some .int) :: wsA
abbrev wsMO_drop : List Cond := Cond.code yMO_drop cMO_drop 3 (some .boolean) :: wsA
abbrev wsMO_isKnown : List Cond := Cond.code yMO_isKnown cMO_isKnown 3 (some .boolean) :: wsA
abbrev wsMO_call : List Cond := Cond.code yMO_call cMO_call 9 (some .long) :: wsA
abbrev wsMO_goes : List Cond := Cond.code yMO_goes cMO_goes 9 (some .long) :: wsA
abbrev wsMO_writes : List Cond := Cond.code yMO_writes cMO_writes 7 (some .long) :: wsA
abbrev wsMO_again : List Cond := Cond.code yMO_again cMO_again 5 (some .long) :: wsA
abbrev wsMO_told : List Cond := Cond.code yMO_told cMO_told 2 (some .long) :: wsA
abbrev wsMO_numbers : List Cond := Cond.code yMO_numbers cMO_numbers 4 (some .int) :: wsA
abbrev wsMO_number : List Cond := Cond.code yMO_number cMO_number 6 (some .int) :: wsA
abbrev wsMO_collected : List Cond := Cond.code yMO_collected cMO_collected 4 (some .long) :: wsA
abbrev wsMO_log : List Cond := Cond.code yMO_log cMO_log 4 (some .long) :: wsA
abbrev wsMO_sum : List Cond := Cond.code yMO_sum cMO_sum 4 (some .long) :: wsA
abbrev wsMO_same : List Cond := Cond.code yMO_same cMO_same 3 (some .boolean) :: wsA
abbrev vwCl : List vw_C := [(RCV, TCV, 2), (RDK, TDK, 5), (RJN, TJN, 3), (RNU, TNU, 2), (RPT, TPT, 3), (RTL, TTL, 1), (RPD, TPD, 2), (RMO, TMO, 11)]
end
section
theorem m_c_PD_init : Cond.code yPD_init cPD_init 1 none ∈ wsA := wa 32 (by decide +kernel) (by decide +kernel)
theorem m_i_PD_init : Cond.instanceMethod yPD_init ∈ wsA := wa 31 (by decide +kernel) (by decide +kernel)
theorem m_c_DK_init : Cond.code yDK_init cDK_init 1 none ∈ wsA := wa 40 (by decide +kernel) (by decide +kernel)
theorem m_i_DK_init : Cond.instanceMethod yDK_init ∈ wsA := wa 39 (by decide +kernel) (by decide +kernel)
theorem m_c_NU_init : Cond.code yNU_init cNU_init 1 none ∈ wsA := wa 46 (by decide +kernel) (by decide +kernel)
theorem m_i_NU_init : Cond.instanceMethod yNU_init ∈ wsA := wa 45 (by decide +kernel) (by decide +kernel)
theorem m_c_PT_init : Cond.code yPT_init cPT_init 1 none ∈ wsA := wa 61 (by decide +kernel) (by decide +kernel)
theorem m_i_PT_init : Cond.instanceMethod yPT_init ∈ wsA := wa 60 (by decide +kernel) (by decide +kernel)
theorem m_c_TL_init : Cond.code yTL_init cTL_init 1 none ∈ wsA := wa 77 (by decide +kernel) (by decide +kernel)
theorem m_i_TL_init : Cond.instanceMethod yTL_init ∈ wsA := wa 76 (by decide +kernel) (by decide +kernel)
theorem m_c_CV_init : Cond.code yCV_init cCV_init 1 none ∈ wsA := wa 88 (by decide +kernel) (by decide +kernel)
theorem m_i_CV_init : Cond.instanceMethod yCV_init ∈ wsA := wa 87 (by decide +kernel) (by decide +kernel)
theorem m_c_JN_init : Cond.code yJN_init cJN_init 1 none ∈ wsA := wa 103 (by decide +kernel) (by decide +kernel)
theorem m_i_JN_init : Cond.instanceMethod yJN_init ∈ wsA := wa 102 (by decide +kernel) (by decide +kernel)
theorem m_c_PD_collect : Cond.code yPD_collect cPD_collect 4 (some .int) ∈ wsA := wa 146 (by decide +kernel) (by decide +kernel)
theorem m_i_PD_collect : Cond.instanceMethod yPD_collect ∈ wsA := wa 144 (by decide +kernel) (by decide +kernel)
theorem m_s_PD_collect : Cond.selects RPD yPD_collect yPD_collect ∈ wsA := wa 145 (by decide +kernel) (by decide +kernel)
theorem m_c_CV_canHold : Cond.code yCV_canHold cCV_canHold 3 (some .boolean) ∈ wsA := wa 149 (by decide +kernel) (by decide +kernel)
theorem m_st_CV_canHold : Cond.static yCV_canHold ∈ wsA := wa 148 (by decide +kernel) (by decide +kernel)
theorem m_c_CV_isFull : Cond.code yCV_isFull cCV_isFull 2 (some .boolean) ∈ wsA := wa 157 (by decide +kernel) (by decide +kernel)
theorem m_i_CV_isFull : Cond.instanceMethod yCV_isFull ∈ wsA := wa 155 (by decide +kernel) (by decide +kernel)
theorem m_s_CV_isFull : Cond.selects RCV yCV_isFull yCV_isFull ∈ wsA := wa 156 (by decide +kernel) (by decide +kernel)
theorem m_c_DK_take : Cond.code yDK_take cDK_take 4 (some .int) ∈ wsA := wa 161 (by decide +kernel) (by decide +kernel)
theorem m_i_DK_take : Cond.instanceMethod yDK_take ∈ wsA := wa 159 (by decide +kernel) (by decide +kernel)
theorem m_s_DK_take : Cond.selects RDK yDK_take yDK_take ∈ wsA := wa 160 (by decide +kernel) (by decide +kernel)
theorem m_c_NU_isFull : Cond.code yNU_isFull cNU_isFull 2 (some .boolean) ∈ wsA := wa 165 (by decide +kernel) (by decide +kernel)
theorem m_i_NU_isFull : Cond.instanceMethod yNU_isFull ∈ wsA := wa 163 (by decide +kernel) (by decide +kernel)
theorem m_s_NU_isFull : Cond.selects RNU yNU_isFull yNU_isFull ∈ wsA := wa 164 (by decide +kernel) (by decide +kernel)
theorem m_c_NU_makeNext : Cond.code yNU_makeNext cNU_makeNext 2 (some .int) ∈ wsA := wa 169 (by decide +kernel) (by decide +kernel)
theorem m_i_NU_makeNext : Cond.instanceMethod yNU_makeNext ∈ wsA := wa 167 (by decide +kernel) (by decide +kernel)
theorem m_s_NU_makeNext : Cond.selects RNU yNU_makeNext yNU_makeNext ∈ wsA := wa 168 (by decide +kernel) (by decide +kernel)
theorem m_c_NU_bitOf : Cond.code yNU_bitOf cNU_bitOf 1 (some .long) ∈ wsA := wa 172 (by decide +kernel) (by decide +kernel)
theorem m_st_NU_bitOf : Cond.static yNU_bitOf ∈ wsA := wa 171 (by decide +kernel) (by decide +kernel)
theorem m_c_CV_add : Cond.code yCV_add cCV_add 4 (some .int) ∈ wsA := wa 176 (by decide +kernel) (by decide +kernel)
theorem m_i_CV_add : Cond.instanceMethod yCV_add ∈ wsA := wa 174 (by decide +kernel) (by decide +kernel)
theorem m_s_CV_add : Cond.selects RCV yCV_add yCV_add ∈ wsA := wa 175 (by decide +kernel) (by decide +kernel)
theorem m_c_PD_answer : Cond.code yPD_answer cPD_answer 4 (some .boolean) ∈ wsA := wa 180 (by decide +kernel) (by decide +kernel)
theorem m_i_PD_answer : Cond.instanceMethod yPD_answer ∈ wsA := wa 178 (by decide +kernel) (by decide +kernel)
theorem m_s_PD_answer : Cond.selects RPD yPD_answer yPD_answer ∈ wsA := wa 179 (by decide +kernel) (by decide +kernel)
theorem m_c_PD_isPart : Cond.code yPD_isPart cPD_isPart 1 (some .boolean) ∈ wsA := wa 183 (by decide +kernel) (by decide +kernel)
theorem m_st_PD_isPart : Cond.static yPD_isPart ∈ wsA := wa 182 (by decide +kernel) (by decide +kernel)
theorem m_c_PT_setAnswer : Cond.code yPT_setAnswer cPT_setAnswer 4 none ∈ wsA := wa 187 (by decide +kernel) (by decide +kernel)
theorem m_i_PT_setAnswer : Cond.instanceMethod yPT_setAnswer ∈ wsA := wa 185 (by decide +kernel) (by decide +kernel)
theorem m_s_PT_setAnswer : Cond.selects RPT yPT_setAnswer yPT_setAnswer ∈ wsA := wa 186 (by decide +kernel) (by decide +kernel)
theorem m_c_PD_fails : Cond.code yPD_fails cPD_fails 3 (some .boolean) ∈ wsA := wa 191 (by decide +kernel) (by decide +kernel)
theorem m_i_PD_fails : Cond.instanceMethod yPD_fails ∈ wsA := wa 189 (by decide +kernel) (by decide +kernel)
theorem m_s_PD_fails : Cond.selects RPD yPD_fails yPD_fails ∈ wsA := wa 190 (by decide +kernel) (by decide +kernel)
theorem m_c_PT_setFailure : Cond.code yPT_setFailure cPT_setFailure 3 none ∈ wsA := wa 195 (by decide +kernel) (by decide +kernel)
theorem m_i_PT_setFailure : Cond.instanceMethod yPT_setFailure ∈ wsA := wa 193 (by decide +kernel) (by decide +kernel)
theorem m_s_PT_setFailure : Cond.selects RPT yPT_setFailure yPT_setFailure ∈ wsA := wa 194 (by decide +kernel) (by decide +kernel)
theorem m_c_PD_drop : Cond.code yPD_drop cPD_drop 3 (some .boolean) ∈ wsA := wa 199 (by decide +kernel) (by decide +kernel)
theorem m_i_PD_drop : Cond.instanceMethod yPD_drop ∈ wsA := wa 197 (by decide +kernel) (by decide +kernel)
theorem m_s_PD_drop : Cond.selects RPD yPD_drop yPD_drop ∈ wsA := wa 198 (by decide +kernel) (by decide +kernel)
theorem m_c_PD_isKind : Cond.code yPD_isKind cPD_isKind 1 (some .boolean) ∈ wsA := wa 202 (by decide +kernel) (by decide +kernel)
theorem m_st_PD_isKind : Cond.static yPD_isKind ∈ wsA := wa 201 (by decide +kernel) (by decide +kernel)
theorem m_c_NU_isKnown : Cond.code yNU_isKnown cNU_isKnown 3 (some .boolean) ∈ wsA := wa 206 (by decide +kernel) (by decide +kernel)
theorem m_i_NU_isKnown : Cond.instanceMethod yNU_isKnown ∈ wsA := wa 204 (by decide +kernel) (by decide +kernel)
theorem m_s_NU_isKnown : Cond.selects RNU yNU_isKnown yNU_isKnown ∈ wsA := wa 205 (by decide +kernel) (by decide +kernel)
theorem m_c_NU_wasMade : Cond.code yNU_wasMade cNU_wasMade 3 (some .boolean) ∈ wsA := wa 210 (by decide +kernel) (by decide +kernel)
theorem m_i_NU_wasMade : Cond.instanceMethod yNU_wasMade ∈ wsA := wa 208 (by decide +kernel) (by decide +kernel)
theorem m_s_NU_wasMade : Cond.selects RNU yNU_wasMade yNU_wasMade ∈ wsA := wa 209 (by decide +kernel) (by decide +kernel)
theorem m_c_NU_forget : Cond.code yNU_forget cNU_forget 3 none ∈ wsA := wa 214 (by decide +kernel) (by decide +kernel)
theorem m_i_NU_forget : Cond.instanceMethod yNU_forget ∈ wsA := wa 212 (by decide +kernel) (by decide +kernel)
theorem m_s_NU_forget : Cond.selects RNU yNU_forget yNU_forget ∈ wsA := wa 213 (by decide +kernel) (by decide +kernel)
theorem m_c_PD_call : Cond.code yPD_call cPD_call 5 (some .long) ∈ wsA := wa 219 (by decide +kernel) (by decide +kernel)
theorem m_i_PD_call : Cond.instanceMethod yPD_call ∈ wsA := wa 217 (by decide +kernel) (by decide +kernel)
theorem m_s_PD_call : Cond.selects RPD yPD_call yPD_call ∈ wsA := wa 218 (by decide +kernel) (by decide +kernel)
theorem m_c_DK_ask : Cond.code yDK_ask cDK_ask 7 (some .long) ∈ wsA := wa 223 (by decide +kernel) (by decide +kernel)
theorem m_i_DK_ask : Cond.instanceMethod yDK_ask ∈ wsA := wa 221 (by decide +kernel) (by decide +kernel)
theorem m_s_DK_ask : Cond.selects RDK yDK_ask yDK_ask ∈ wsA := wa 222 (by decide +kernel) (by decide +kernel)
theorem m_c_DK_answerOrRefuse : Cond.code yDK_answerOrRefuse cDK_answerOrRefuse 6 (some .long) ∈ wsA := wa 227 (by decide +kernel) (by decide +kernel)
theorem m_i_DK_answerOrRefuse : Cond.instanceMethod yDK_answerOrRefuse ∈ wsA := wa 226 (by decide +kernel) (by decide +kernel)
theorem m_s_DK_answerOrRefuse : Cond.selects RDK yDK_answerOrRefuse yDK_answerOrRefuse ∈ wsA := wa 0 (by decide +kernel) (by decide +kernel)
theorem m_c_DK_refuse : Cond.code yDK_refuse cDK_refuse 2 (some .long) ∈ wsA := wa 232 (by decide +kernel) (by decide +kernel)
theorem m_i_DK_refuse : Cond.instanceMethod yDK_refuse ∈ wsA := wa 231 (by decide +kernel) (by decide +kernel)
theorem m_s_DK_refuse : Cond.selects RDK yDK_refuse yDK_refuse ∈ wsA := wa 1 (by decide +kernel) (by decide +kernel)
theorem m_c_TL_countRefused : Cond.code yTL_countRefused cTL_countRefused 2 none ∈ wsA := wa 236 (by decide +kernel) (by decide +kernel)
theorem m_i_TL_countRefused : Cond.instanceMethod yTL_countRefused ∈ wsA := wa 234 (by decide +kernel) (by decide +kernel)
theorem m_s_TL_countRefused : Cond.selects RTL yTL_countRefused yTL_countRefused ∈ wsA := wa 235 (by decide +kernel) (by decide +kernel)
theorem m_c_DK_askPart : Cond.codeWith yDK_askPart cDK_askPart 11 (some .long) [(16, 28, 31, 93), (16, 28, 39, 95), (16, 28, 47, 97), (16, 28, 55, 99), (16, 28, 63, 101)] ∈ wsA := wa 242 (by decide +kernel) (by decide +kernel)
theorem m_i_DK_askPart : Cond.instanceMethod yDK_askPart ∈ wsA := wa 241 (by decide +kernel) (by decide +kernel)
theorem m_s_DK_askPart : Cond.selects RDK yDK_askPart yDK_askPart ∈ wsA := wa 2 (by decide +kernel) (by decide +kernel)
theorem m_c_PT_sumOf : Cond.code yPT_sumOf cPT_sumOf 2 (some .long) ∈ wsA := wa 251 (by decide +kernel) (by decide +kernel)
theorem m_i_PT_sumOf : Cond.instanceMethod yPT_sumOf ∈ wsA := wa 249 (by decide +kernel) (by decide +kernel)
theorem m_s_PT_sumOf : Cond.selects RPT yPT_sumOf yPT_sumOf ∈ wsA := wa 250 (by decide +kernel) (by decide +kernel)
theorem m_c_PT_answerTo : Cond.code yPT_answerTo cPT_answerTo 5 (some .long) ∈ wsA := wa 255 (by decide +kernel) (by decide +kernel)
theorem m_i_PT_answerTo : Cond.instanceMethod yPT_answerTo ∈ wsA := wa 253 (by decide +kernel) (by decide +kernel)
theorem m_s_PT_answerTo : Cond.selects RPT yPT_answerTo yPT_answerTo ∈ wsA := wa 254 (by decide +kernel) (by decide +kernel)
theorem m_c_PT_throwIfTold : Cond.code yPT_throwIfTold cPT_throwIfTold 3 none ∈ wsA := wa 259 (by decide +kernel) (by decide +kernel)
theorem m_i_PT_throwIfTold : Cond.instanceMethod yPT_throwIfTold ∈ wsA := wa 258 (by decide +kernel) (by decide +kernel)
theorem m_s_PT_throwIfTold : Cond.selects RPT yPT_throwIfTold yPT_throwIfTold ∈ wsA := wa 3 (by decide +kernel) (by decide +kernel)
theorem m_c_PT_restoreSum : Cond.code yPT_restoreSum cPT_restoreSum 4 none ∈ wsA := wa 398 (by decide +kernel) (by decide +kernel)
theorem m_i_PT_restoreSum : Cond.instanceMethod yPT_restoreSum ∈ wsA := wa 396 (by decide +kernel) (by decide +kernel)
theorem m_s_PT_restoreSum : Cond.selects RPT yPT_restoreSum yPT_restoreSum ∈ wsA := wa 397 (by decide +kernel) (by decide +kernel)
theorem m_c_TL_countFailure : Cond.code yTL_countFailure cTL_countFailure 4 none ∈ wsA := wa 402 (by decide +kernel) (by decide +kernel)
theorem m_i_TL_countFailure : Cond.instanceMethod yTL_countFailure ∈ wsA := wa 400 (by decide +kernel) (by decide +kernel)
theorem m_s_TL_countFailure : Cond.selects RTL yTL_countFailure yTL_countFailure ∈ wsA := wa 401 (by decide +kernel) (by decide +kernel)
theorem m_c_TL_countAnswered : Cond.code yTL_countAnswered cTL_countAnswered 1 none ∈ wsA := wa 406 (by decide +kernel) (by decide +kernel)
theorem m_i_TL_countAnswered : Cond.instanceMethod yTL_countAnswered ∈ wsA := wa 404 (by decide +kernel) (by decide +kernel)
theorem m_s_TL_countAnswered : Cond.selects RTL yTL_countAnswered yTL_countAnswered ∈ wsA := wa 405 (by decide +kernel) (by decide +kernel)
theorem m_c_JN_write : Cond.code yJN_write cJN_write 3 none ∈ wsA := wa 410 (by decide +kernel) (by decide +kernel)
theorem m_i_JN_write : Cond.instanceMethod yJN_write ∈ wsA := wa 408 (by decide +kernel) (by decide +kernel)
theorem m_s_JN_write : Cond.selects RJN yJN_write yJN_write ∈ wsA := wa 409 (by decide +kernel) (by decide +kernel)
theorem m_c_PD_again : Cond.code yPD_again cPD_again 5 (some .long) ∈ wsA := wa 414 (by decide +kernel) (by decide +kernel)
theorem m_i_PD_again : Cond.instanceMethod yPD_again ∈ wsA := wa 412 (by decide +kernel) (by decide +kernel)
theorem m_s_PD_again : Cond.selects RPD yPD_again yPD_again ∈ wsA := wa 413 (by decide +kernel) (by decide +kernel)
theorem m_c_PD_numbers : Cond.code yPD_numbers cPD_numbers 2 (some .int) ∈ wsA := wa 418 (by decide +kernel) (by decide +kernel)
theorem m_i_PD_numbers : Cond.instanceMethod yPD_numbers ∈ wsA := wa 416 (by decide +kernel) (by decide +kernel)
theorem m_s_PD_numbers : Cond.selects RPD yPD_numbers yPD_numbers ∈ wsA := wa 417 (by decide +kernel) (by decide +kernel)
theorem m_c_NU_countKnown : Cond.code yNU_countKnown cNU_countKnown 2 (some .int) ∈ wsA := wa 422 (by decide +kernel) (by decide +kernel)
theorem m_i_NU_countKnown : Cond.instanceMethod yNU_countKnown ∈ wsA := wa 420 (by decide +kernel) (by decide +kernel)
theorem m_s_NU_countKnown : Cond.selects RNU yNU_countKnown yNU_countKnown ∈ wsA := wa 421 (by decide +kernel) (by decide +kernel)
theorem m_c_LG_bitCount : Cond.code yLG_bitCount cLG_bitCount 2 (some .int) ∈ wsA := wa 425 (by decide +kernel) (by decide +kernel)
theorem m_st_LG_bitCount : Cond.static yLG_bitCount ∈ wsA := wa 424 (by decide +kernel) (by decide +kernel)
theorem m_c_PD_same : Cond.code yPD_same cPD_same 1 (some .boolean) ∈ wsA := wa 432 (by decide +kernel) (by decide +kernel)
theorem m_i_PD_same : Cond.instanceMethod yPD_same ∈ wsA := wa 430 (by decide +kernel) (by decide +kernel)
theorem m_s_PD_same : Cond.selects RPD yPD_same yPD_same ∈ wsA := wa 431 (by decide +kernel) (by decide +kernel)
theorem m_c_DK_isLike : Cond.code yDK_isLike cDK_isLike 2 (some .boolean) ∈ wsA := wa 436 (by decide +kernel) (by decide +kernel)
theorem m_i_DK_isLike : Cond.instanceMethod yDK_isLike ∈ wsA := wa 434 (by decide +kernel) (by decide +kernel)
theorem m_s_DK_isLike : Cond.selects RDK yDK_isLike yDK_isLike ∈ wsA := wa 435 (by decide +kernel) (by decide +kernel)
theorem m_c_NU_isLike : Cond.code yNU_isLike cNU_isLike 3 (some .boolean) ∈ wsA := wa 440 (by decide +kernel) (by decide +kernel)
theorem m_i_NU_isLike : Cond.instanceMethod yNU_isLike ∈ wsA := wa 438 (by decide +kernel) (by decide +kernel)
theorem m_s_NU_isLike : Cond.selects RNU yNU_isLike yNU_isLike ∈ wsA := wa 439 (by decide +kernel) (by decide +kernel)
theorem m_c_PT_hasSumsOf : Cond.code yPT_hasSumsOf cPT_hasSumsOf 3 (some .boolean) ∈ wsA := wa 444 (by decide +kernel) (by decide +kernel)
theorem m_i_PT_hasSumsOf : Cond.instanceMethod yPT_hasSumsOf ∈ wsA := wa 442 (by decide +kernel) (by decide +kernel)
theorem m_s_PT_hasSumsOf : Cond.selects RPT yPT_hasSumsOf yPT_hasSumsOf ∈ wsA := wa 443 (by decide +kernel) (by decide +kernel)
theorem m_c_JN_isLike : Cond.code yJN_isLike cJN_isLike 3 (some .boolean) ∈ wsA := wa 448 (by decide +kernel) (by decide +kernel)
theorem m_i_JN_isLike : Cond.instanceMethod yJN_isLike ∈ wsA := wa 446 (by decide +kernel) (by decide +kernel)
theorem m_s_JN_isLike : Cond.selects RJN yJN_isLike yJN_isLike ∈ wsA := wa 447 (by decide +kernel) (by decide +kernel)
theorem m_c_JN_entryAt : Cond.code yJN_entryAt cJN_entryAt 2 (some .long) ∈ wsA := wa 452 (by decide +kernel) (by decide +kernel)
theorem m_i_JN_entryAt : Cond.instanceMethod yJN_entryAt ∈ wsA := wa 450 (by decide +kernel) (by decide +kernel)
theorem m_s_JN_entryAt : Cond.selects RJN yJN_entryAt yJN_entryAt ∈ wsA := wa 451 (by decide +kernel) (by decide +kernel)
theorem m_c_TL_isLike : Cond.code yTL_isLike cTL_isLike 3 (some .boolean) ∈ wsA := wa 456 (by decide +kernel) (by decide +kernel)
theorem m_i_TL_isLike : Cond.instanceMethod yTL_isLike ∈ wsA := wa 454 (by decide +kernel) (by decide +kernel)
theorem m_s_TL_isLike : Cond.selects RTL yTL_isLike yTL_isLike ∈ wsA := wa 455 (by decide +kernel) (by decide +kernel)
theorem m_c_CV_isLike : Cond.code yCV_isLike cCV_isLike 4 (some .boolean) ∈ wsA := wa 460 (by decide +kernel) (by decide +kernel)
theorem m_i_CV_isLike : Cond.instanceMethod yCV_isLike ∈ wsA := wa 458 (by decide +kernel) (by decide +kernel)
theorem m_s_CV_isLike : Cond.selects RCV yCV_isLike yCV_isLike ∈ wsA := wa 459 (by decide +kernel) (by decide +kernel)
theorem m_c_LW_make : Cond.codeWith yLW_make cLW_make 4 (some .int) [(0, 9, 12, 13), (0, 9, 15, 15)] ∈ wsA := wa 463 (by decide +kernel) (by decide +kernel)
theorem m_st_LW_make : Cond.static yLW_make ∈ wsA := wa 462 (by decide +kernel) (by decide +kernel)
theorem m_c_PD_make : Cond.code yPD_make cPD_make 2 (some .int) ∈ wsA := wa 469 (by decide +kernel) (by decide +kernel)
theorem m_i_PD_make : Cond.instanceMethod yPD_make ∈ wsA := wa 467 (by decide +kernel) (by decide +kernel)
theorem m_s_PD_make : Cond.selects RPD yPD_make yPD_make ∈ wsA := wa 468 (by decide +kernel) (by decide +kernel)
theorem m_c_LW_told : Cond.codeWith yLW_told cLW_told 4 (some .int) [(0, 8, 11, 21)] ∈ wsA := wa 480 (by decide +kernel) (by decide +kernel)
theorem m_st_LW_told : Cond.static yLW_told ∈ wsA := wa 479 (by decide +kernel) (by decide +kernel)
theorem m_c_PD_told : Cond.code yPD_told cPD_told 2 (some .long) ∈ wsA := wa 485 (by decide +kernel) (by decide +kernel)
theorem m_i_PD_told : Cond.instanceMethod yPD_told ∈ wsA := wa 483 (by decide +kernel) (by decide +kernel)
theorem m_s_PD_told : Cond.selects RPD yPD_told yPD_told ∈ wsA := wa 484 (by decide +kernel) (by decide +kernel)
theorem m_c_TL_fact : Cond.code yTL_fact cTL_fact 2 (some .long) ∈ wsA := wa 492 (by decide +kernel) (by decide +kernel)
theorem m_i_TL_fact : Cond.instanceMethod yTL_fact ∈ wsA := wa 490 (by decide +kernel) (by decide +kernel)
theorem m_s_TL_fact : Cond.selects RTL yTL_fact yTL_fact ∈ wsA := wa 491 (by decide +kernel) (by decide +kernel)
theorem m_c_LW_number : Cond.codeWith yLW_number cLW_number 5 (some .int) [(0, 10, 13, 13)] ∈ wsA := wa 495 (by decide +kernel) (by decide +kernel)
theorem m_st_LW_number : Cond.static yLW_number ∈ wsA := wa 494 (by decide +kernel) (by decide +kernel)
theorem m_c_PD_number : Cond.code yPD_number cPD_number 3 (some .int) ∈ wsA := wa 499 (by decide +kernel) (by decide +kernel)
theorem m_i_PD_number : Cond.instanceMethod yPD_number ∈ wsA := wa 497 (by decide +kernel) (by decide +kernel)
theorem m_s_PD_number : Cond.selects RPD yPD_number yPD_number ∈ wsA := wa 498 (by decide +kernel) (by decide +kernel)
theorem m_c_NU_knownAt : Cond.code yNU_knownAt cNU_knownAt 5 (some .int) ∈ wsA := wa 503 (by decide +kernel) (by decide +kernel)
theorem m_i_NU_knownAt : Cond.instanceMethod yNU_knownAt ∈ wsA := wa 501 (by decide +kernel) (by decide +kernel)
theorem m_s_NU_knownAt : Cond.selects RNU yNU_knownAt yNU_knownAt ∈ wsA := wa 502 (by decide +kernel) (by decide +kernel)
theorem m_c_LW_collected : Cond.codeWith yLW_collected cLW_collected 5 (some .int) [(0, 9, 12, 21)] ∈ wsA := wa 507 (by decide +kernel) (by decide +kernel)
theorem m_st_LW_collected : Cond.static yLW_collected ∈ wsA := wa 506 (by decide +kernel) (by decide +kernel)
theorem m_c_PD_collected : Cond.code yPD_collected cPD_collected 3 (some .long) ∈ wsA := wa 511 (by decide +kernel) (by decide +kernel)
theorem m_i_PD_collected : Cond.instanceMethod yPD_collected ∈ wsA := wa 509 (by decide +kernel) (by decide +kernel)
theorem m_s_PD_collected : Cond.selects RPD yPD_collected yPD_collected ∈ wsA := wa 510 (by decide +kernel) (by decide +kernel)
theorem m_c_CV_size : Cond.code yCV_size cCV_size 2 (some .int) ∈ wsA := wa 515 (by decide +kernel) (by decide +kernel)
theorem m_i_CV_size : Cond.instanceMethod yCV_size ∈ wsA := wa 513 (by decide +kernel) (by decide +kernel)
theorem m_s_CV_size : Cond.selects RCV yCV_size yCV_size ∈ wsA := wa 514 (by decide +kernel) (by decide +kernel)
theorem m_c_CV_valueAt : Cond.code yCV_valueAt cCV_valueAt 3 (some .long) ∈ wsA := wa 520 (by decide +kernel) (by decide +kernel)
theorem m_i_CV_valueAt : Cond.instanceMethod yCV_valueAt ∈ wsA := wa 518 (by decide +kernel) (by decide +kernel)
theorem m_s_CV_valueAt : Cond.selects RCV yCV_valueAt yCV_valueAt ∈ wsA := wa 519 (by decide +kernel) (by decide +kernel)
theorem m_c_LW_log : Cond.codeWith yLW_log cLW_log 5 (some .int) [(0, 9, 12, 21)] ∈ wsA := wa 523 (by decide +kernel) (by decide +kernel)
theorem m_st_LW_log : Cond.static yLW_log ∈ wsA := wa 522 (by decide +kernel) (by decide +kernel)
theorem m_c_PD_log : Cond.code yPD_log cPD_log 3 (some .long) ∈ wsA := wa 527 (by decide +kernel) (by decide +kernel)
theorem m_i_PD_log : Cond.instanceMethod yPD_log ∈ wsA := wa 525 (by decide +kernel) (by decide +kernel)
theorem m_s_PD_log : Cond.selects RPD yPD_log yPD_log ∈ wsA := wa 526 (by decide +kernel) (by decide +kernel)
theorem m_c_PD_isDesk : Cond.code yPD_isDesk cPD_isDesk 1 (some .boolean) ∈ wsA := wa 530 (by decide +kernel) (by decide +kernel)
theorem m_st_PD_isDesk : Cond.static yPD_isDesk ∈ wsA := wa 529 (by decide +kernel) (by decide +kernel)
theorem m_c_PD_deskAt : Cond.code yPD_deskAt cPD_deskAt 2 (some (.object "PortDesk$Desk")) ∈ wsA := wa 534 (by decide +kernel) (by decide +kernel)
theorem m_i_PD_deskAt : Cond.instanceMethod yPD_deskAt ∈ wsA := wa 533 (by decide +kernel) (by decide +kernel)
theorem m_s_PD_deskAt : Cond.selects RPD yPD_deskAt yPD_deskAt ∈ wsA := wa 5 (by decide +kernel) (by decide +kernel)
theorem m_c_JN_size : Cond.code yJN_size cJN_size 1 (some .int) ∈ wsA := wa 538 (by decide +kernel) (by decide +kernel)
theorem m_i_JN_size : Cond.instanceMethod yJN_size ∈ wsA := wa 536 (by decide +kernel) (by decide +kernel)
theorem m_s_JN_size : Cond.selects RJN yJN_size yJN_size ∈ wsA := wa 537 (by decide +kernel) (by decide +kernel)
theorem m_c_LW_sum : Cond.codeWith yLW_sum cLW_sum 5 (some .int) [(0, 9, 12, 13)] ∈ wsA := wa 543 (by decide +kernel) (by decide +kernel)
theorem m_st_LW_sum : Cond.static yLW_sum ∈ wsA := wa 542 (by decide +kernel) (by decide +kernel)
theorem m_c_PD_sum : Cond.code yPD_sum cPD_sum 3 (some .long) ∈ wsA := wa 547 (by decide +kernel) (by decide +kernel)
theorem m_i_PD_sum : Cond.instanceMethod yPD_sum ∈ wsA := wa 545 (by decide +kernel) (by decide +kernel)
theorem m_s_PD_sum : Cond.selects RPD yPD_sum yPD_sum ∈ wsA := wa 546 (by decide +kernel) (by decide +kernel)
theorem m_c_MO_init : Cond.code yMO_init cMO_init 1 none ∈ wsA := wa 554 (by decide +kernel) (by decide +kernel)
theorem m_i_MO_init : Cond.instanceMethod yMO_init ∈ wsA := wa 553 (by decide +kernel) (by decide +kernel)
theorem m_c_MO_thrown : Cond.code yMO_thrown cMO_thrown 1 (some .int) ∈ wsA := wa 595 (by decide +kernel) (by decide +kernel)
theorem m_i_MO_thrown : Cond.instanceMethod yMO_thrown ∈ wsA := wa 593 (by decide +kernel) (by decide +kernel)
theorem m_s_MO_thrown : Cond.selects RMO yMO_thrown yMO_thrown ∈ wsA := wa 594 (by decide +kernel) (by decide +kernel)
theorem m_c_MO_collect : Cond.code yMO_collect cMO_collect 4 (some .int) ∈ wsA := wa 599 (by decide +kernel) (by decide +kernel)
theorem m_i_MO_collect : Cond.instanceMethod yMO_collect ∈ wsA := wa 597 (by decide +kernel) (by decide +kernel)
theorem m_s_MO_collect : Cond.selects RMO yMO_collect yMO_collect ∈ wsA := wa 598 (by decide +kernel) (by decide +kernel)
theorem m_c_MO_in : Cond.code yMO_in cMO_in 6 (some .boolean) ∈ wsA := wa 603 (by decide +kernel) (by decide +kernel)
theorem m_st_MO_in : Cond.static yMO_in ∈ wsA := wa 602 (by decide +kernel) (by decide +kernel)
theorem m_c_MO_fits : Cond.code yMO_fits cMO_fits 3 (some .boolean) ∈ wsA := wa 606 (by decide +kernel) (by decide +kernel)
theorem m_st_MO_fits : Cond.static yMO_fits ∈ wsA := wa 605 (by decide +kernel) (by decide +kernel)
theorem m_c_MO_answer : Cond.code yMO_answer cMO_answer 4 (some .boolean) ∈ wsA := wa 614 (by decide +kernel) (by decide +kernel)
theorem m_i_MO_answer : Cond.instanceMethod yMO_answer ∈ wsA := wa 612 (by decide +kernel) (by decide +kernel)
theorem m_s_MO_answer : Cond.selects RMO yMO_answer yMO_answer ∈ wsA := wa 613 (by decide +kernel) (by decide +kernel)
theorem m_c_MO_isPart : Cond.code yMO_isPart cMO_isPart 1 (some .boolean) ∈ wsA := wa 617 (by decide +kernel) (by decide +kernel)
theorem m_st_MO_isPart : Cond.static yMO_isPart ∈ wsA := wa 616 (by decide +kernel) (by decide +kernel)
theorem m_c_MO_fails : Cond.code yMO_fails cMO_fails 3 (some .boolean) ∈ wsA := wa 621 (by decide +kernel) (by decide +kernel)
theorem m_i_MO_fails : Cond.instanceMethod yMO_fails ∈ wsA := wa 619 (by decide +kernel) (by decide +kernel)
theorem m_s_MO_fails : Cond.selects RMO yMO_fails yMO_fails ∈ wsA := wa 620 (by decide +kernel) (by decide +kernel)
theorem m_c_MO_make : Cond.code yMO_make cMO_make 2 (some .int) ∈ wsA := wa 626 (by decide +kernel) (by decide +kernel)
theorem m_i_MO_make : Cond.instanceMethod yMO_make ∈ wsA := wa 624 (by decide +kernel) (by decide +kernel)
theorem m_s_MO_make : Cond.selects RMO yMO_make yMO_make ∈ wsA := wa 625 (by decide +kernel) (by decide +kernel)
theorem m_c_MO_isKind : Cond.code yMO_isKind cMO_isKind 1 (some .boolean) ∈ wsA := wa 629 (by decide +kernel) (by decide +kernel)
theorem m_st_MO_isKind : Cond.static yMO_isKind ∈ wsA := wa 628 (by decide +kernel) (by decide +kernel)
theorem m_c_MO_refuse : Cond.code yMO_refuse cMO_refuse 2 (some .int) ∈ wsA := wa 633 (by decide +kernel) (by decide +kernel)
theorem m_i_MO_refuse : Cond.instanceMethod yMO_refuse ∈ wsA := wa 632 (by decide +kernel) (by decide +kernel)
theorem m_s_MO_refuse : Cond.selects RMO yMO_refuse yMO_refuse ∈ wsA := wa 6 (by decide +kernel) (by decide +kernel)
theorem m_c_MO_drop : Cond.code yMO_drop cMO_drop 3 (some .boolean) ∈ wsA := wa 637 (by decide +kernel) (by decide +kernel)
theorem m_i_MO_drop : Cond.instanceMethod yMO_drop ∈ wsA := wa 635 (by decide +kernel) (by decide +kernel)
theorem m_s_MO_drop : Cond.selects RMO yMO_drop yMO_drop ∈ wsA := wa 636 (by decide +kernel) (by decide +kernel)
theorem m_c_MO_isKnown : Cond.code yMO_isKnown cMO_isKnown 3 (some .boolean) ∈ wsA := wa 641 (by decide +kernel) (by decide +kernel)
theorem m_i_MO_isKnown : Cond.instanceMethod yMO_isKnown ∈ wsA := wa 640 (by decide +kernel) (by decide +kernel)
theorem m_s_MO_isKnown : Cond.selects RMO yMO_isKnown yMO_isKnown ∈ wsA := wa 7 (by decide +kernel) (by decide +kernel)
theorem m_c_MO_call : Cond.code yMO_call cMO_call 9 (some .long) ∈ wsA := wa 645 (by decide +kernel) (by decide +kernel)
theorem m_i_MO_call : Cond.instanceMethod yMO_call ∈ wsA := wa 643 (by decide +kernel) (by decide +kernel)
theorem m_s_MO_call : Cond.selects RMO yMO_call yMO_call ∈ wsA := wa 644 (by decide +kernel) (by decide +kernel)
theorem m_c_MO_goes : Cond.code yMO_goes cMO_goes 9 (some .long) ∈ wsA := wa 649 (by decide +kernel) (by decide +kernel)
theorem m_i_MO_goes : Cond.instanceMethod yMO_goes ∈ wsA := wa 648 (by decide +kernel) (by decide +kernel)
theorem m_s_MO_goes : Cond.selects RMO yMO_goes yMO_goes ∈ wsA := wa 8 (by decide +kernel) (by decide +kernel)
theorem m_c_MO_writes : Cond.code yMO_writes cMO_writes 7 (some .long) ∈ wsA := wa 653 (by decide +kernel) (by decide +kernel)
theorem m_i_MO_writes : Cond.instanceMethod yMO_writes ∈ wsA := wa 652 (by decide +kernel) (by decide +kernel)
theorem m_s_MO_writes : Cond.selects RMO yMO_writes yMO_writes ∈ wsA := wa 9 (by decide +kernel) (by decide +kernel)
theorem m_c_MO_again : Cond.code yMO_again cMO_again 5 (some .long) ∈ wsA := wa 660 (by decide +kernel) (by decide +kernel)
theorem m_i_MO_again : Cond.instanceMethod yMO_again ∈ wsA := wa 658 (by decide +kernel) (by decide +kernel)
theorem m_s_MO_again : Cond.selects RMO yMO_again yMO_again ∈ wsA := wa 659 (by decide +kernel) (by decide +kernel)
theorem m_c_MO_told : Cond.code yMO_told cMO_told 2 (some .long) ∈ wsA := wa 664 (by decide +kernel) (by decide +kernel)
theorem m_i_MO_told : Cond.instanceMethod yMO_told ∈ wsA := wa 662 (by decide +kernel) (by decide +kernel)
theorem m_s_MO_told : Cond.selects RMO yMO_told yMO_told ∈ wsA := wa 663 (by decide +kernel) (by decide +kernel)
theorem m_c_MO_numbers : Cond.code yMO_numbers cMO_numbers 4 (some .int) ∈ wsA := wa 668 (by decide +kernel) (by decide +kernel)
theorem m_i_MO_numbers : Cond.instanceMethod yMO_numbers ∈ wsA := wa 666 (by decide +kernel) (by decide +kernel)
theorem m_s_MO_numbers : Cond.selects RMO yMO_numbers yMO_numbers ∈ wsA := wa 667 (by decide +kernel) (by decide +kernel)
theorem m_c_MO_number : Cond.code yMO_number cMO_number 6 (some .int) ∈ wsA := wa 672 (by decide +kernel) (by decide +kernel)
theorem m_i_MO_number : Cond.instanceMethod yMO_number ∈ wsA := wa 670 (by decide +kernel) (by decide +kernel)
theorem m_s_MO_number : Cond.selects RMO yMO_number yMO_number ∈ wsA := wa 671 (by decide +kernel) (by decide +kernel)
theorem m_c_MO_collected : Cond.code yMO_collected cMO_collected 4 (some .long) ∈ wsA := wa 676 (by decide +kernel) (by decide +kernel)
theorem m_i_MO_collected : Cond.instanceMethod yMO_collected ∈ wsA := wa 674 (by decide +kernel) (by decide +kernel)
theorem m_s_MO_collected : Cond.selects RMO yMO_collected yMO_collected ∈ wsA := wa 675 (by decide +kernel) (by decide +kernel)
theorem m_c_MO_log : Cond.code yMO_log cMO_log 4 (some .long) ∈ wsA := wa 680 (by decide +kernel) (by decide +kernel)
theorem m_i_MO_log : Cond.instanceMethod yMO_log ∈ wsA := wa 678 (by decide +kernel) (by decide +kernel)
theorem m_s_MO_log : Cond.selects RMO yMO_log yMO_log ∈ wsA := wa 679 (by decide +kernel) (by decide +kernel)
theorem m_c_MO_sum : Cond.code yMO_sum cMO_sum 4 (some .long) ∈ wsA := wa 684 (by decide +kernel) (by decide +kernel)
theorem m_i_MO_sum : Cond.instanceMethod yMO_sum ∈ wsA := wa 682 (by decide +kernel) (by decide +kernel)
theorem m_s_MO_sum : Cond.selects RMO yMO_sum yMO_sum ∈ wsA := wa 683 (by decide +kernel) (by decide +kernel)
theorem m_c_MO_same : Cond.code yMO_same cMO_same 3 (some .boolean) ∈ wsA := wa 688 (by decide +kernel) (by decide +kernel)
theorem m_i_MO_same : Cond.instanceMethod yMO_same ∈ wsA := wa 686 (by decide +kernel) (by decide +kernel)
theorem m_s_MO_same : Cond.selects RMO yMO_same yMO_same ∈ wsA := wa 687 (by decide +kernel) (by decide +kernel)
theorem m_in_CV : Cond.initialized RCV ∈ wsA := wa 16 (by decide +kernel) (by decide +kernel)
theorem m_new_CV : Cond.instantiable RCV 2 ∈ wsA := wa 85 (by decide +kernel) (by decide +kernel)
theorem m_in_DK : Cond.initialized RDK ∈ wsA := wa 12 (by decide +kernel) (by decide +kernel)
theorem m_new_DK : Cond.instantiable RDK 5 ∈ wsA := wa 37 (by decide +kernel) (by decide +kernel)
theorem m_in_JN : Cond.initialized RJN ∈ wsA := wa 17 (by decide +kernel) (by decide +kernel)
theorem m_new_JN : Cond.instantiable RJN 3 ∈ wsA := wa 100 (by decide +kernel) (by decide +kernel)
theorem m_in_NU : Cond.initialized RNU ∈ wsA := wa 13 (by decide +kernel) (by decide +kernel)
theorem m_new_NU : Cond.instantiable RNU 2 ∈ wsA := wa 43 (by decide +kernel) (by decide +kernel)
theorem m_in_PT : Cond.initialized RPT ∈ wsA := wa 14 (by decide +kernel) (by decide +kernel)
theorem m_new_PT : Cond.instantiable RPT 3 ∈ wsA := wa 58 (by decide +kernel) (by decide +kernel)
theorem m_in_TL : Cond.initialized RTL ∈ wsA := wa 15 (by decide +kernel) (by decide +kernel)
theorem m_new_TL : Cond.instantiable RTL 1 ∈ wsA := wa 74 (by decide +kernel) (by decide +kernel)
theorem m_in_PD : Cond.initialized RPD ∈ wsA := wa 11 (by decide +kernel) (by decide +kernel)
theorem m_new_PD : Cond.instantiable RPD 2 ∈ wsA := wa 29 (by decide +kernel) (by decide +kernel)
theorem m_in_MO : Cond.initialized RMO ∈ wsA := wa 18 (by decide +kernel) (by decide +kernel)
theorem m_new_MO : Cond.instantiable RMO 11 ∈ wsA := wa 551 (by decide +kernel) (by decide +kernel)
theorem m_in_LW : Cond.initialized RLW ∈ wsA := wa 10 (by decide +kernel) (by decide +kernel)
theorem m_in_LG : Cond.initialized RLG ∈ wsA := wa 27 (by decide +kernel) (by decide +kernel)
theorem m_f_NU_9 : Cond.fieldLink RNU 9 "PortDesk$Numbers" "made" "[I" ∈ wsA := wa 48 (by decide +kernel) (by decide +kernel)
theorem m_f_NU_15 : Cond.fieldLink RNU 15 "PortDesk$Numbers" "known" "[J" ∈ wsA := wa 49 (by decide +kernel) (by decide +kernel)
theorem m_f_PT_9 : Cond.fieldLink RPT 9 "PortDesk$Parts" "answers" "[J" ∈ wsA := wa 63 (by decide +kernel) (by decide +kernel)
theorem m_f_PT_15 : Cond.fieldLink RPT 15 "PortDesk$Parts" "sums" "[J" ∈ wsA := wa 64 (by decide +kernel) (by decide +kernel)
theorem m_f_PT_18 : Cond.fieldLink RPT 18 "PortDesk$Parts" "failures" "[I" ∈ wsA := wa 65 (by decide +kernel) (by decide +kernel)
theorem m_f_TL_9 : Cond.fieldLink RTL 9 "PortDesk$Tally" "facts" "[J" ∈ wsA := wa 80 (by decide +kernel) (by decide +kernel)
theorem m_f_CV_9 : Cond.fieldLink RCV 9 "PortDesk$CollectedValues" "sizes" "[I" ∈ wsA := wa 92 (by decide +kernel) (by decide +kernel)
theorem m_f_CV_17 : Cond.fieldLink RCV 17 "PortDesk$CollectedValues" "values" "[[J" ∈ wsA := wa 93 (by decide +kernel) (by decide +kernel)
theorem m_f_JN_9 : Cond.fieldLink RJN 9 "PortDesk$Journal" "ring" "[J" ∈ wsA := wa 105 (by decide +kernel) (by decide +kernel)
theorem m_f_JN_13 : Cond.fieldLink RJN 13 "PortDesk$Journal" "size" "I" ∈ wsA := wa 106 (by decide +kernel) (by decide +kernel)
theorem m_f_JN_17 : Cond.fieldLink RJN 17 "PortDesk$Journal" "next" "I" ∈ wsA := wa 107 (by decide +kernel) (by decide +kernel)
theorem m_f_DK_12 : Cond.fieldLink RDK 12 "PortDesk$Desk" "numbers" "LPortDesk$Numbers;" ∈ wsA := wa 115 (by decide +kernel) (by decide +kernel)
theorem m_f_PD_64 : Cond.fieldLink RPD 64 "PortDesk$Desk" "numbers" "LPortDesk$Numbers;" ∈ wsA := wa 116 (by decide +kernel) (by decide +kernel)
theorem m_f_DK_21 : Cond.fieldLink RDK 21 "PortDesk$Desk" "parts" "LPortDesk$Parts;" ∈ wsA := wa 117 (by decide +kernel) (by decide +kernel)
theorem m_f_PD_40 : Cond.fieldLink RPD 40 "PortDesk$Desk" "parts" "LPortDesk$Parts;" ∈ wsA := wa 118 (by decide +kernel) (by decide +kernel)
theorem m_f_DK_28 : Cond.fieldLink RDK 28 "PortDesk$Desk" "tally" "LPortDesk$Tally;" ∈ wsA := wa 119 (by decide +kernel) (by decide +kernel)
theorem m_f_PD_96 : Cond.fieldLink RPD 96 "PortDesk$Desk" "tally" "LPortDesk$Tally;" ∈ wsA := wa 120 (by decide +kernel) (by decide +kernel)
theorem m_f_DK_35 : Cond.fieldLink RDK 35 "PortDesk$Desk" "collection" "LPortDesk$CollectedValues;" ∈ wsA := wa 121 (by decide +kernel) (by decide +kernel)
theorem m_f_PD_25 : Cond.fieldLink RPD 25 "PortDesk$Desk" "collection" "LPortDesk$CollectedValues;" ∈ wsA := wa 122 (by decide +kernel) (by decide +kernel)
theorem m_f_DK_42 : Cond.fieldLink RDK 42 "PortDesk$Desk" "journal" "LPortDesk$Journal;" ∈ wsA := wa 123 (by decide +kernel) (by decide +kernel)
theorem m_f_PD_129 : Cond.fieldLink RPD 129 "PortDesk$Desk" "journal" "LPortDesk$Journal;" ∈ wsA := wa 124 (by decide +kernel) (by decide +kernel)
theorem m_f_PD_10 : Cond.fieldLink RPD 10 "PortDesk" "first" "LPortDesk$Desk;" ∈ wsA := wa 136 (by decide +kernel) (by decide +kernel)
theorem m_f_PD_16 : Cond.fieldLink RPD 16 "PortDesk" "second" "LPortDesk$Desk;" ∈ wsA := wa 137 (by decide +kernel) (by decide +kernel)
theorem m_f_MO_44 : Cond.fieldLink RMO 44 "PortDeskModel" "thrown" "I" ∈ wsA := wa 557 (by decide +kernel) (by decide +kernel)
theorem m_f_MO_7 : Cond.fieldLink RMO 7 "PortDeskModel" "made" "[I" ∈ wsA := wa 558 (by decide +kernel) (by decide +kernel)
theorem m_f_MO_13 : Cond.fieldLink RMO 13 "PortDeskModel" "dropped" "[Z" ∈ wsA := wa 559 (by decide +kernel) (by decide +kernel)
theorem m_f_MO_17 : Cond.fieldLink RMO 17 "PortDeskModel" "answers" "[J" ∈ wsA := wa 560 (by decide +kernel) (by decide +kernel)
theorem m_f_MO_21 : Cond.fieldLink RMO 21 "PortDeskModel" "failing" "[I" ∈ wsA := wa 561 (by decide +kernel) (by decide +kernel)
theorem m_f_MO_24 : Cond.fieldLink RMO 24 "PortDeskModel" "sums" "[J" ∈ wsA := wa 562 (by decide +kernel) (by decide +kernel)
theorem m_f_MO_27 : Cond.fieldLink RMO 27 "PortDeskModel" "logged" "[I" ∈ wsA := wa 563 (by decide +kernel) (by decide +kernel)
theorem m_f_MO_30 : Cond.fieldLink RMO 30 "PortDeskModel" "log" "[J" ∈ wsA := wa 564 (by decide +kernel) (by decide +kernel)
theorem m_f_MO_33 : Cond.fieldLink RMO 33 "PortDeskModel" "told" "[J" ∈ wsA := wa 565 (by decide +kernel) (by decide +kernel)
theorem m_f_MO_36 : Cond.fieldLink RMO 36 "PortDeskModel" "many" "[I" ∈ wsA := wa 566 (by decide +kernel) (by decide +kernel)
theorem m_f_MO_39 : Cond.fieldLink RMO 39 "PortDeskModel" "values" "[J" ∈ wsA := wa 567 (by decide +kernel) (by decide +kernel)
theorem m_l_LW_37 : Cond.methodLink RLW 37 yPD_init ∈ wsA := wa 30 (by decide +kernel) (by decide +kernel)
theorem m_l_PD_1 : Cond.methodLink RPD 1 objectInit ∈ wsA := wa 33 (by decide +kernel) (by decide +kernel)
theorem m_l_DK_3 : Cond.methodLink RDK 3 objectInit ∈ wsA := wa 41 (by decide +kernel) (by decide +kernel)
theorem m_l_NU_3 : Cond.methodLink RNU 3 objectInit ∈ wsA := wa 47 (by decide +kernel) (by decide +kernel)
theorem m_l_PT_3 : Cond.methodLink RPT 3 objectInit ∈ wsA := wa 62 (by decide +kernel) (by decide +kernel)
theorem m_l_DK_27 : Cond.methodLink RDK 27 yTL_init ∈ wsA := wa 75 (by decide +kernel) (by decide +kernel)
theorem m_l_TL_3 : Cond.methodLink RTL 3 objectInit ∈ wsA := wa 78 (by decide +kernel) (by decide +kernel)
theorem m_l_CV_3 : Cond.methodLink RCV 3 objectInit ∈ wsA := wa 89 (by decide +kernel) (by decide +kernel)
theorem m_l_JN_1 : Cond.methodLink RJN 1 objectInit ∈ wsA := wa 104 (by decide +kernel) (by decide +kernel)
theorem m_l_LW_43 : Cond.methodLink RLW 43 yPD_collect ∈ wsA := wa 143 (by decide +kernel) (by decide +kernel)
theorem m_l_PD_19 : Cond.methodLink RPD 19 yCV_canHold ∈ wsA := wa 147 (by decide +kernel) (by decide +kernel)
theorem m_l_PD_29 : Cond.methodLink RPD 29 yCV_isFull ∈ wsA := wa 154 (by decide +kernel) (by decide +kernel)
theorem m_l_PD_33 : Cond.methodLink RPD 33 yDK_take ∈ wsA := wa 158 (by decide +kernel) (by decide +kernel)
theorem m_l_DK_46 : Cond.methodLink RDK 46 yNU_isFull ∈ wsA := wa 162 (by decide +kernel) (by decide +kernel)
theorem m_l_DK_50 : Cond.methodLink RDK 50 yNU_makeNext ∈ wsA := wa 166 (by decide +kernel) (by decide +kernel)
theorem m_l_NU_19 : Cond.methodLink RNU 19 yNU_bitOf ∈ wsA := wa 170 (by decide +kernel) (by decide +kernel)
theorem m_l_DK_54 : Cond.methodLink RDK 54 yCV_add ∈ wsA := wa 173 (by decide +kernel) (by decide +kernel)
theorem m_l_LW_48 : Cond.methodLink RLW 48 yPD_answer ∈ wsA := wa 177 (by decide +kernel) (by decide +kernel)
theorem m_l_PD_37 : Cond.methodLink RPD 37 yPD_isPart ∈ wsA := wa 181 (by decide +kernel) (by decide +kernel)
theorem m_l_PD_44 : Cond.methodLink RPD 44 yPT_setAnswer ∈ wsA := wa 184 (by decide +kernel) (by decide +kernel)
theorem m_l_LW_53 : Cond.methodLink RLW 53 yPD_fails ∈ wsA := wa 188 (by decide +kernel) (by decide +kernel)
theorem m_l_PD_50 : Cond.methodLink RPD 50 yPT_setFailure ∈ wsA := wa 192 (by decide +kernel) (by decide +kernel)
theorem m_l_LW_68 : Cond.methodLink RLW 68 yPD_drop ∈ wsA := wa 196 (by decide +kernel) (by decide +kernel)
theorem m_l_PD_54 : Cond.methodLink RPD 54 yPD_isKind ∈ wsA := wa 200 (by decide +kernel) (by decide +kernel)
theorem m_l_PD_80 : Cond.methodLink RPD 80 yNU_isKnown ∈ wsA := wa 203 (by decide +kernel) (by decide +kernel)
theorem m_l_NU_25 : Cond.methodLink RNU 25 yNU_wasMade ∈ wsA := wa 207 (by decide +kernel) (by decide +kernel)
theorem m_l_PD_84 : Cond.methodLink RPD 84 yNU_forget ∈ wsA := wa 211 (by decide +kernel) (by decide +kernel)
theorem m_l_LW_72 : Cond.methodLink RLW 72 yPD_call ∈ wsA := wa 216 (by decide +kernel) (by decide +kernel)
theorem m_l_PD_87 : Cond.methodLink RPD 87 yDK_ask ∈ wsA := wa 220 (by decide +kernel) (by decide +kernel)
theorem m_l_DK_58 : Cond.methodLink RDK 58 yDK_answerOrRefuse ∈ wsA := wa 224 (by decide +kernel) (by decide +kernel)
theorem m_l_DK_69 : Cond.methodLink RDK 69 yDK_refuse ∈ wsA := wa 229 (by decide +kernel) (by decide +kernel)
theorem m_l_DK_83 : Cond.methodLink RDK 83 yTL_countRefused ∈ wsA := wa 233 (by decide +kernel) (by decide +kernel)
theorem m_l_DK_73 : Cond.methodLink RDK 73 yNU_wasMade ∈ wsA := wa 237 (by decide +kernel) (by decide +kernel)
theorem m_l_DK_77 : Cond.methodLink RDK 77 yNU_isKnown ∈ wsA := wa 238 (by decide +kernel) (by decide +kernel)
theorem m_l_DK_80 : Cond.methodLink RDK 80 yDK_askPart ∈ wsA := wa 239 (by decide +kernel) (by decide +kernel)
theorem m_l_DK_87 : Cond.methodLink RDK 87 yPT_sumOf ∈ wsA := wa 248 (by decide +kernel) (by decide +kernel)
theorem m_l_DK_90 : Cond.methodLink RDK 90 yPT_answerTo ∈ wsA := wa 252 (by decide +kernel) (by decide +kernel)
theorem m_l_PT_22 : Cond.methodLink RPT 22 yPT_throwIfTold ∈ wsA := wa 256 (by decide +kernel) (by decide +kernel)
theorem m_l_PT_32 : Cond.methodLink RPT 32 ⟨"java/lang/IllegalStateException", "<init>", "(Ljava/lang/String;)V"⟩ ∈ wsA := wa 304 (by decide +kernel) (by decide +kernel)
theorem m_l_PT_39 : Cond.methodLink RPT 39 ⟨"java/lang/IllegalArgumentException", "<init>", "(Ljava/lang/String;)V"⟩ ∈ wsA := wa 340 (by decide +kernel) (by decide +kernel)
theorem m_l_PT_44 : Cond.methodLink RPT 44 ⟨"java/lang/IndexOutOfBoundsException", "<init>", "(Ljava/lang/String;)V"⟩ ∈ wsA := wa 356 (by decide +kernel) (by decide +kernel)
theorem m_l_PT_49 : Cond.methodLink RPT 49 ⟨"java/lang/ArithmeticException", "<init>", "(Ljava/lang/String;)V"⟩ ∈ wsA := wa 372 (by decide +kernel) (by decide +kernel)
theorem m_l_PT_54 : Cond.methodLink RPT 54 ⟨"java/lang/UnsupportedOperationException", "<init>", "(Ljava/lang/String;)V"⟩ ∈ wsA := wa 388 (by decide +kernel) (by decide +kernel)
theorem m_l_DK_103 : Cond.methodLink RDK 103 yPT_restoreSum ∈ wsA := wa 395 (by decide +kernel) (by decide +kernel)
theorem m_l_DK_107 : Cond.methodLink RDK 107 yTL_countFailure ∈ wsA := wa 399 (by decide +kernel) (by decide +kernel)
theorem m_l_DK_111 : Cond.methodLink RDK 111 yTL_countAnswered ∈ wsA := wa 403 (by decide +kernel) (by decide +kernel)
theorem m_l_DK_62 : Cond.methodLink RDK 62 yJN_write ∈ wsA := wa 407 (by decide +kernel) (by decide +kernel)
theorem m_l_LW_77 : Cond.methodLink RLW 77 yPD_again ∈ wsA := wa 411 (by decide +kernel) (by decide +kernel)
theorem m_l_LW_84 : Cond.methodLink RLW 84 yPD_numbers ∈ wsA := wa 415 (by decide +kernel) (by decide +kernel)
theorem m_l_PD_106 : Cond.methodLink RPD 106 yNU_countKnown ∈ wsA := wa 419 (by decide +kernel) (by decide +kernel)
theorem m_l_NU_29 : Cond.methodLink RNU 29 yLG_bitCount ∈ wsA := wa 423 (by decide +kernel) (by decide +kernel)
theorem m_l_LW_101 : Cond.methodLink RLW 101 yPD_same ∈ wsA := wa 429 (by decide +kernel) (by decide +kernel)
theorem m_l_PD_148 : Cond.methodLink RPD 148 yDK_isLike ∈ wsA := wa 433 (by decide +kernel) (by decide +kernel)
theorem m_l_DK_114 : Cond.methodLink RDK 114 yNU_isLike ∈ wsA := wa 437 (by decide +kernel) (by decide +kernel)
theorem m_l_DK_118 : Cond.methodLink RDK 118 yPT_hasSumsOf ∈ wsA := wa 441 (by decide +kernel) (by decide +kernel)
theorem m_l_DK_122 : Cond.methodLink RDK 122 yJN_isLike ∈ wsA := wa 445 (by decide +kernel) (by decide +kernel)
theorem m_l_JN_20 : Cond.methodLink RJN 20 yJN_entryAt ∈ wsA := wa 449 (by decide +kernel) (by decide +kernel)
theorem m_l_DK_125 : Cond.methodLink RDK 125 yTL_isLike ∈ wsA := wa 453 (by decide +kernel) (by decide +kernel)
theorem m_l_DK_128 : Cond.methodLink RDK 128 yCV_isLike ∈ wsA := wa 457 (by decide +kernel) (by decide +kernel)
theorem m_l_LW_58 : Cond.methodLink RLW 58 yLW_make ∈ wsA := wa 461 (by decide +kernel) (by decide +kernel)
theorem m_l_LW_7 : Cond.methodLink RLW 7 yPD_make ∈ wsA := wa 466 (by decide +kernel) (by decide +kernel)
theorem m_l_PD_61 : Cond.methodLink RPD 61 ⟨"java/lang/IllegalArgumentException", "<init>", "(Ljava/lang/String;)V"⟩ ∈ wsA := wa 472 (by decide +kernel) (by decide +kernel)
theorem m_l_PD_68 : Cond.methodLink RPD 68 yNU_isFull ∈ wsA := wa 473 (by decide +kernel) (by decide +kernel)
theorem m_l_PD_75 : Cond.methodLink RPD 75 ⟨"java/lang/IllegalStateException", "<init>", "(Ljava/lang/String;)V"⟩ ∈ wsA := wa 476 (by decide +kernel) (by decide +kernel)
theorem m_l_PD_76 : Cond.methodLink RPD 76 yNU_makeNext ∈ wsA := wa 477 (by decide +kernel) (by decide +kernel)
theorem m_l_LW_81 : Cond.methodLink RLW 81 yLW_told ∈ wsA := wa 478 (by decide +kernel) (by decide +kernel)
theorem m_l_LW_17 : Cond.methodLink RLW 17 yPD_told ∈ wsA := wa 482 (by decide +kernel) (by decide +kernel)
theorem m_l_PD_95 : Cond.methodLink RPD 95 ⟨"java/lang/IndexOutOfBoundsException", "<init>", "(Ljava/lang/String;)V"⟩ ∈ wsA := wa 488 (by decide +kernel) (by decide +kernel)
theorem m_l_PD_100 : Cond.methodLink RPD 100 yTL_fact ∈ wsA := wa 489 (by decide +kernel) (by decide +kernel)
theorem m_l_LW_88 : Cond.methodLink RLW 88 yLW_number ∈ wsA := wa 493 (by decide +kernel) (by decide +kernel)
theorem m_l_LW_23 : Cond.methodLink RLW 23 yPD_number ∈ wsA := wa 496 (by decide +kernel) (by decide +kernel)
theorem m_l_PD_109 : Cond.methodLink RPD 109 yNU_knownAt ∈ wsA := wa 500 (by decide +kernel) (by decide +kernel)
theorem m_l_NU_35 : Cond.methodLink RNU 35 yNU_isKnown ∈ wsA := wa 504 (by decide +kernel) (by decide +kernel)
theorem m_l_LW_92 : Cond.methodLink RLW 92 yLW_collected ∈ wsA := wa 505 (by decide +kernel) (by decide +kernel)
theorem m_l_LW_27 : Cond.methodLink RLW 27 yPD_collected ∈ wsA := wa 508 (by decide +kernel) (by decide +kernel)
theorem m_l_PD_113 : Cond.methodLink RPD 113 yCV_size ∈ wsA := wa 512 (by decide +kernel) (by decide +kernel)
theorem m_l_PD_118 : Cond.methodLink RPD 118 yCV_valueAt ∈ wsA := wa 517 (by decide +kernel) (by decide +kernel)
theorem m_l_LW_95 : Cond.methodLink RLW 95 yLW_log ∈ wsA := wa 521 (by decide +kernel) (by decide +kernel)
theorem m_l_LW_31 : Cond.methodLink RLW 31 yPD_log ∈ wsA := wa 524 (by decide +kernel) (by decide +kernel)
theorem m_l_PD_122 : Cond.methodLink RPD 122 yPD_isDesk ∈ wsA := wa 528 (by decide +kernel) (by decide +kernel)
theorem m_l_PD_125 : Cond.methodLink RPD 125 yPD_deskAt ∈ wsA := wa 531 (by decide +kernel) (by decide +kernel)
theorem m_l_PD_133 : Cond.methodLink RPD 133 yJN_size ∈ wsA := wa 535 (by decide +kernel) (by decide +kernel)
theorem m_l_PD_140 : Cond.methodLink RPD 140 yJN_entryAt ∈ wsA := wa 540 (by decide +kernel) (by decide +kernel)
theorem m_l_LW_98 : Cond.methodLink RLW 98 yLW_sum ∈ wsA := wa 541 (by decide +kernel) (by decide +kernel)
theorem m_l_LW_34 : Cond.methodLink RLW 34 yPD_sum ∈ wsA := wa 544 (by decide +kernel) (by decide +kernel)
theorem m_l_PD_145 : Cond.methodLink RPD 145 yPT_sumOf ∈ wsA := wa 549 (by decide +kernel) (by decide +kernel)
theorem m_l_LW_40 : Cond.methodLink RLW 40 yMO_init ∈ wsA := wa 552 (by decide +kernel) (by decide +kernel)
theorem m_l_MO_1 : Cond.methodLink RMO 1 objectInit ∈ wsA := wa 555 (by decide +kernel) (by decide +kernel)
theorem m_l_LW_64 : Cond.methodLink RLW 64 yMO_thrown ∈ wsA := wa 592 (by decide +kernel) (by decide +kernel)
theorem m_l_LW_47 : Cond.methodLink RLW 47 yMO_collect ∈ wsA := wa 596 (by decide +kernel) (by decide +kernel)
theorem m_l_MO_52 : Cond.methodLink RMO 52 yMO_in ∈ wsA := wa 601 (by decide +kernel) (by decide +kernel)
theorem m_l_MO_62 : Cond.methodLink RMO 62 yMO_fits ∈ wsA := wa 604 (by decide +kernel) (by decide +kernel)
theorem m_l_LW_52 : Cond.methodLink RLW 52 yMO_answer ∈ wsA := wa 611 (by decide +kernel) (by decide +kernel)
theorem m_l_MO_66 : Cond.methodLink RMO 66 yMO_isPart ∈ wsA := wa 615 (by decide +kernel) (by decide +kernel)
theorem m_l_LW_57 : Cond.methodLink RLW 57 yMO_fails ∈ wsA := wa 618 (by decide +kernel) (by decide +kernel)
theorem m_l_LW_63 : Cond.methodLink RLW 63 yMO_make ∈ wsA := wa 623 (by decide +kernel) (by decide +kernel)
theorem m_l_MO_72 : Cond.methodLink RMO 72 yMO_isKind ∈ wsA := wa 627 (by decide +kernel) (by decide +kernel)
theorem m_l_MO_75 : Cond.methodLink RMO 75 yMO_refuse ∈ wsA := wa 630 (by decide +kernel) (by decide +kernel)
theorem m_l_LW_71 : Cond.methodLink RLW 71 yMO_drop ∈ wsA := wa 634 (by decide +kernel) (by decide +kernel)
theorem m_l_MO_79 : Cond.methodLink RMO 79 yMO_isKnown ∈ wsA := wa 638 (by decide +kernel) (by decide +kernel)
theorem m_l_LW_76 : Cond.methodLink RLW 76 yMO_call ∈ wsA := wa 642 (by decide +kernel) (by decide +kernel)
theorem m_l_MO_93 : Cond.methodLink RMO 93 yMO_goes ∈ wsA := wa 646 (by decide +kernel) (by decide +kernel)
theorem m_l_MO_83 : Cond.methodLink RMO 83 yMO_writes ∈ wsA := wa 650 (by decide +kernel) (by decide +kernel)
theorem m_l_LW_80 : Cond.methodLink RLW 80 yMO_again ∈ wsA := wa 657 (by decide +kernel) (by decide +kernel)
theorem m_l_LW_83 : Cond.methodLink RLW 83 yMO_told ∈ wsA := wa 661 (by decide +kernel) (by decide +kernel)
theorem m_l_LW_87 : Cond.methodLink RLW 87 yMO_numbers ∈ wsA := wa 665 (by decide +kernel) (by decide +kernel)
theorem m_l_LW_91 : Cond.methodLink RLW 91 yMO_number ∈ wsA := wa 669 (by decide +kernel) (by decide +kernel)
theorem m_l_LW_94 : Cond.methodLink RLW 94 yMO_collected ∈ wsA := wa 673 (by decide +kernel) (by decide +kernel)
theorem m_l_LW_97 : Cond.methodLink RLW 97 yMO_log ∈ wsA := wa 677 (by decide +kernel) (by decide +kernel)
theorem m_l_LW_100 : Cond.methodLink RLW 100 yMO_sum ∈ wsA := wa 681 (by decide +kernel) (by decide +kernel)
theorem m_l_LW_105 : Cond.methodLink RLW 105 yMO_same ∈ wsA := wa 685 (by decide +kernel) (by decide +kernel)
theorem m_cl_LW_8 : Cond.classLink RLW 8 RPD ∈ wsA := wa 28 (by decide +kernel) (by decide +kernel)
theorem m_cl_PD_7 : Cond.classLink RPD 7 RDK ∈ wsA := wa 36 (by decide +kernel) (by decide +kernel)
theorem m_cl_DK_9 : Cond.classLink RDK 9 RNU ∈ wsA := wa 42 (by decide +kernel) (by decide +kernel)
theorem m_cl_DK_18 : Cond.classLink RDK 18 RPT ∈ wsA := wa 57 (by decide +kernel) (by decide +kernel)
theorem m_cl_DK_25 : Cond.classLink RDK 25 RTL ∈ wsA := wa 73 (by decide +kernel) (by decide +kernel)
theorem m_cl_DK_32 : Cond.classLink RDK 32 RCV ∈ wsA := wa 84 (by decide +kernel) (by decide +kernel)
theorem m_cl_CV_15 : Cond.classLink RCV 15 "[[J" ∈ wsA := wa 90 (by decide +kernel) (by decide +kernel)
theorem m_cl_DK_39 : Cond.classLink RDK 39 RJN ∈ wsA := wa 99 (by decide +kernel) (by decide +kernel)
theorem m_cl_DK_93 : Cond.classLink RDK 93 "java/lang/IllegalStateException" ∈ wsA := wa 243 (by decide +kernel) (by decide +kernel)
theorem m_cl_DK_95 : Cond.classLink RDK 95 "java/lang/IllegalArgumentException" ∈ wsA := wa 244 (by decide +kernel) (by decide +kernel)
theorem m_cl_DK_97 : Cond.classLink RDK 97 "java/lang/IndexOutOfBoundsException" ∈ wsA := wa 245 (by decide +kernel) (by decide +kernel)
theorem m_cl_DK_99 : Cond.classLink RDK 99 "java/lang/ArithmeticException" ∈ wsA := wa 246 (by decide +kernel) (by decide +kernel)
theorem m_cl_DK_101 : Cond.classLink RDK 101 "java/lang/UnsupportedOperationException" ∈ wsA := wa 247 (by decide +kernel) (by decide +kernel)
theorem m_cl_PT_28 : Cond.classLink RPT 28 "java/lang/IllegalStateException" ∈ wsA := wa 260 (by decide +kernel) (by decide +kernel)
theorem m_cl_PT_35 : Cond.classLink RPT 35 "java/lang/IllegalArgumentException" ∈ wsA := wa 330 (by decide +kernel) (by decide +kernel)
theorem m_cl_PT_40 : Cond.classLink RPT 40 "java/lang/IndexOutOfBoundsException" ∈ wsA := wa 346 (by decide +kernel) (by decide +kernel)
theorem m_cl_PT_45 : Cond.classLink RPT 45 "java/lang/ArithmeticException" ∈ wsA := wa 362 (by decide +kernel) (by decide +kernel)
theorem m_cl_PT_50 : Cond.classLink RPT 50 "java/lang/UnsupportedOperationException" ∈ wsA := wa 378 (by decide +kernel) (by decide +kernel)
theorem m_cl_LW_13 : Cond.classLink RLW 13 "java/lang/IllegalArgumentException" ∈ wsA := wa 464 (by decide +kernel) (by decide +kernel)
theorem m_cl_LW_15 : Cond.classLink RLW 15 "java/lang/IllegalStateException" ∈ wsA := wa 465 (by decide +kernel) (by decide +kernel)
theorem m_cl_PD_57 : Cond.classLink RPD 57 "java/lang/IllegalArgumentException" ∈ wsA := wa 470 (by decide +kernel) (by decide +kernel)
theorem m_cl_PD_71 : Cond.classLink RPD 71 "java/lang/IllegalStateException" ∈ wsA := wa 474 (by decide +kernel) (by decide +kernel)
theorem m_cl_LW_21 : Cond.classLink RLW 21 "java/lang/IndexOutOfBoundsException" ∈ wsA := wa 481 (by decide +kernel) (by decide +kernel)
theorem m_cl_PD_91 : Cond.classLink RPD 91 "java/lang/IndexOutOfBoundsException" ∈ wsA := wa 486 (by decide +kernel) (by decide +kernel)
theorem m_cl_LW_38 : Cond.classLink RLW 38 RMO ∈ wsA := wa 550 (by decide +kernel) (by decide +kernel)
theorem m_k_TL_15 : Cond.constantLong RTL 15 (-1) ∈ wsA := wa 79 (by decide +kernel) (by decide +kernel)
theorem m_k_CV_20 : Cond.constantLong RCV 20 (32) ∈ wsA := wa 150 (by decide +kernel) (by decide +kernel)
theorem m_k_CV_22 : Cond.constantLong RCV 22 (126) ∈ wsA := wa 151 (by decide +kernel) (by decide +kernel)
theorem m_k_CV_24 : Cond.constantLong RCV 24 (255) ∈ wsA := wa 152 (by decide +kernel) (by decide +kernel)
theorem m_k_CV_26 : Cond.constantLong RCV 26 (8) ∈ wsA := wa 153 (by decide +kernel) (by decide +kernel)
theorem m_k_NU_23 : Cond.constantLong RNU 23 (-1) ∈ wsA := wa 215 (by decide +kernel) (by decide +kernel)
theorem m_k_PT_26 : Cond.constantLong RPT 26 (3) ∈ wsA := wa 394 (by decide +kernel) (by decide +kernel)
theorem m_k_LG_314 : Cond.constantLong RLG 314 (6148914691236517205) ∈ wsA := wa 426 (by decide +kernel) (by decide +kernel)
theorem m_k_LG_316 : Cond.constantLong RLG 316 (3689348814741910323) ∈ wsA := wa 427 (by decide +kernel) (by decide +kernel)
theorem m_k_LG_318 : Cond.constantLong RLG 318 (1085102592571150095) ∈ wsA := wa 428 (by decide +kernel) (by decide +kernel)
theorem m_k_MO_42 : Cond.constantLong RMO 42 (-1) ∈ wsA := wa 556 (by decide +kernel) (by decide +kernel)
theorem m_k_MO_60 : Cond.constantLong RMO 60 (3) ∈ wsA := wa 600 (by decide +kernel) (by decide +kernel)
theorem m_k_MO_48 : Cond.constantLong RMO 48 (32) ∈ wsA := wa 607 (by decide +kernel) (by decide +kernel)
theorem m_k_MO_50 : Cond.constantLong RMO 50 (126) ∈ wsA := wa 608 (by decide +kernel) (by decide +kernel)
theorem m_k_MO_56 : Cond.constantLong RMO 56 (255) ∈ wsA := wa 609 (by decide +kernel) (by decide +kernel)
theorem m_k_MO_58 : Cond.constantLong RMO 58 (7) ∈ wsA := wa 610 (by decide +kernel) (by decide +kernel)
theorem m_k_MO_70 : Cond.constantLong RMO 70 (5) ∈ wsA := wa 622 (by decide +kernel) (by decide +kernel)
theorem m_k_MO_87 : Cond.constantLong RMO 87 (-2) ∈ wsA := wa 654 (by decide +kernel) (by decide +kernel)
theorem m_k_MO_89 : Cond.constantLong RMO 89 (-3) ∈ wsA := wa 655 (by decide +kernel) (by decide +kernel)
theorem m_k_MO_91 : Cond.constantLong RMO 91 (-100) ∈ wsA := wa 656 (by decide +kernel) (by decide +kernel)
theorem m_k_LW_41 : Cond.constantLong RLW 41 (4294967295) ∈ wsA := wa 689 (by decide +kernel) (by decide +kernel)
theorem m_ac_int : Cond.arrayClass .int ∈ wsA := wa 55 (by decide +kernel) (by decide +kernel)
theorem m_ac_long : Cond.arrayClass .long ∈ wsA := wa 56 (by decide +kernel) (by decide +kernel)
theorem m_ac_boolean : Cond.arrayClass .boolean ∈ wsA := wa 591 (by decide +kernel) (by decide +kernel)
theorem m_oi : Cond.instanceMethod objectInit ∈ wsA := wa 34 (by decide +kernel) (by decide +kernel)
theorem m_oc : Cond.code objectInit ⟨#[0xb1]⟩ 1 none ∈ wsA := wa 35 (by decide +kernel) (by decide +kernel)
theorem m_in_IllegalStateException : Cond.initialized "java/lang/IllegalStateException" ∈ wsA := wa 23 (by decide +kernel) (by decide +kernel)
theorem m_in_IllegalArgumentException : Cond.initialized "java/lang/IllegalArgumentException" ∈ wsA := wa 22 (by decide +kernel) (by decide +kernel)
theorem m_in_IndexOutOfBoundsException : Cond.initialized "java/lang/IndexOutOfBoundsException" ∈ wsA := wa 24 (by decide +kernel) (by decide +kernel)
theorem m_in_ArithmeticException : Cond.initialized "java/lang/ArithmeticException" ∈ wsA := wa 25 (by decide +kernel) (by decide +kernel)
theorem m_in_UnsupportedOperationException : Cond.initialized "java/lang/UnsupportedOperationException" ∈ wsA := wa 26 (by decide +kernel) (by decide +kernel)
end
section
theorem dPD_init_0 : decode cPD_init 0 = .ok (.aload_n 0, 1) := by decide +kernel
theorem dPD_init_1 : decode cPD_init 1 = .ok (.invokespecial 1, 3) := by decide +kernel
theorem dPD_init_4 : decode cPD_init 4 = .ok (.aload_n 0, 1) := by decide +kernel
theorem dPD_init_5 : decode cPD_init 5 = .ok (.new 7, 3) := by decide +kernel
theorem dPD_init_8 : decode cPD_init 8 = .ok (.dup, 1) := by decide +kernel
theorem dPD_init_9 : decode cPD_init 9 = .ok (.invokespecial 9, 3) := by decide +kernel
theorem dPD_init_12 : decode cPD_init 12 = .ok (.putfield 10, 3) := by decide +kernel
theorem dPD_init_15 : decode cPD_init 15 = .ok (.aload_n 0, 1) := by decide +kernel
theorem dPD_init_16 : decode cPD_init 16 = .ok (.new 7, 3) := by decide +kernel
theorem dPD_init_19 : decode cPD_init 19 = .ok (.dup, 1) := by decide +kernel
theorem dPD_init_20 : decode cPD_init 20 = .ok (.invokespecial 9, 3) := by decide +kernel
theorem dPD_init_23 : decode cPD_init 23 = .ok (.putfield 16, 3) := by decide +kernel
theorem dPD_init_26 : decode cPD_init 26 = .ok (.return_, 1) := by decide +kernel
theorem dDK_init_0 : decode cDK_init 0 = .ok (.aload_n 0, 1) := by decide +kernel
theorem dDK_init_1 : decode cDK_init 1 = .ok (.invokespecial 3, 3) := by decide +kernel
theorem dDK_init_4 : decode cDK_init 4 = .ok (.aload_n 0, 1) := by decide +kernel
theorem dDK_init_5 : decode cDK_init 5 = .ok (.new 9, 3) := by decide +kernel
theorem dDK_init_8 : decode cDK_init 8 = .ok (.dup, 1) := by decide +kernel
theorem dDK_init_9 : decode cDK_init 9 = .ok (.invokespecial 11, 3) := by decide +kernel
theorem dDK_init_12 : decode cDK_init 12 = .ok (.putfield 12, 3) := by decide +kernel
theorem dDK_init_15 : decode cDK_init 15 = .ok (.aload_n 0, 1) := by decide +kernel
theorem dDK_init_16 : decode cDK_init 16 = .ok (.new 18, 3) := by decide +kernel
theorem dDK_init_19 : decode cDK_init 19 = .ok (.dup, 1) := by decide +kernel
theorem dDK_init_20 : decode cDK_init 20 = .ok (.invokespecial 20, 3) := by decide +kernel
theorem dDK_init_23 : decode cDK_init 23 = .ok (.putfield 21, 3) := by decide +kernel
theorem dDK_init_26 : decode cDK_init 26 = .ok (.aload_n 0, 1) := by decide +kernel
theorem dDK_init_27 : decode cDK_init 27 = .ok (.new 25, 3) := by decide +kernel
theorem dDK_init_30 : decode cDK_init 30 = .ok (.dup, 1) := by decide +kernel
theorem dDK_init_31 : decode cDK_init 31 = .ok (.invokespecial 27, 3) := by decide +kernel
theorem dDK_init_34 : decode cDK_init 34 = .ok (.putfield 28, 3) := by decide +kernel
theorem dDK_init_37 : decode cDK_init 37 = .ok (.aload_n 0, 1) := by decide +kernel
theorem dDK_init_38 : decode cDK_init 38 = .ok (.new 32, 3) := by decide +kernel
theorem dDK_init_41 : decode cDK_init 41 = .ok (.dup, 1) := by decide +kernel
theorem dDK_init_42 : decode cDK_init 42 = .ok (.invokespecial 34, 3) := by decide +kernel
theorem dDK_init_45 : decode cDK_init 45 = .ok (.putfield 35, 3) := by decide +kernel
theorem dDK_init_48 : decode cDK_init 48 = .ok (.aload_n 0, 1) := by decide +kernel
theorem dDK_init_49 : decode cDK_init 49 = .ok (.new 39, 3) := by decide +kernel
theorem dDK_init_52 : decode cDK_init 52 = .ok (.dup, 1) := by decide +kernel
theorem dDK_init_53 : decode cDK_init 53 = .ok (.invokespecial 41, 3) := by decide +kernel
theorem dDK_init_56 : decode cDK_init 56 = .ok (.putfield 42, 3) := by decide +kernel
theorem dDK_init_59 : decode cDK_init 59 = .ok (.return_, 1) := by decide +kernel
theorem dNU_init_0 : decode cNU_init 0 = .ok (.aload_n 0, 1) := by decide +kernel
theorem dNU_init_1 : decode cNU_init 1 = .ok (.invokespecial 3, 3) := by decide +kernel
theorem dNU_init_4 : decode cNU_init 4 = .ok (.aload_n 0, 1) := by decide +kernel
theorem dNU_init_5 : decode cNU_init 5 = .ok (.bipush 8, 2) := by decide +kernel
theorem dNU_init_7 : decode cNU_init 7 = .ok (.newarray .int, 2) := by decide +kernel
theorem dNU_init_9 : decode cNU_init 9 = .ok (.putfield 9, 3) := by decide +kernel
theorem dNU_init_12 : decode cNU_init 12 = .ok (.aload_n 0, 1) := by decide +kernel
theorem dNU_init_13 : decode cNU_init 13 = .ok (.bipush 8, 2) := by decide +kernel
theorem dNU_init_15 : decode cNU_init 15 = .ok (.newarray .long, 2) := by decide +kernel
theorem dNU_init_17 : decode cNU_init 17 = .ok (.putfield 15, 3) := by decide +kernel
theorem dNU_init_20 : decode cNU_init 20 = .ok (.return_, 1) := by decide +kernel
theorem dPT_init_0 : decode cPT_init 0 = .ok (.aload_n 0, 1) := by decide +kernel
theorem dPT_init_1 : decode cPT_init 1 = .ok (.invokespecial 3, 3) := by decide +kernel
theorem dPT_init_4 : decode cPT_init 4 = .ok (.aload_n 0, 1) := by decide +kernel
theorem dPT_init_5 : decode cPT_init 5 = .ok (.bipush 12, 2) := by decide +kernel
theorem dPT_init_7 : decode cPT_init 7 = .ok (.newarray .long, 2) := by decide +kernel
theorem dPT_init_9 : decode cPT_init 9 = .ok (.putfield 9, 3) := by decide +kernel
theorem dPT_init_12 : decode cPT_init 12 = .ok (.aload_n 0, 1) := by decide +kernel
theorem dPT_init_13 : decode cPT_init 13 = .ok (.bipush 12, 2) := by decide +kernel
theorem dPT_init_15 : decode cPT_init 15 = .ok (.newarray .long, 2) := by decide +kernel
theorem dPT_init_17 : decode cPT_init 17 = .ok (.putfield 15, 3) := by decide +kernel
theorem dPT_init_20 : decode cPT_init 20 = .ok (.aload_n 0, 1) := by decide +kernel
theorem dPT_init_21 : decode cPT_init 21 = .ok (.bipush 12, 2) := by decide +kernel
theorem dPT_init_23 : decode cPT_init 23 = .ok (.newarray .int, 2) := by decide +kernel
theorem dPT_init_25 : decode cPT_init 25 = .ok (.putfield 18, 3) := by decide +kernel
theorem dPT_init_28 : decode cPT_init 28 = .ok (.return_, 1) := by decide +kernel
theorem dTL_init_0 : decode cTL_init 0 = .ok (.aload_n 0, 1) := by decide +kernel
theorem dTL_init_1 : decode cTL_init 1 = .ok (.invokespecial 3, 3) := by decide +kernel
theorem dTL_init_4 : decode cTL_init 4 = .ok (.aload_n 0, 1) := by decide +kernel
theorem dTL_init_5 : decode cTL_init 5 = .ok (.bipush 8, 2) := by decide +kernel
theorem dTL_init_7 : decode cTL_init 7 = .ok (.newarray .long, 2) := by decide +kernel
theorem dTL_init_9 : decode cTL_init 9 = .ok (.putfield 9, 3) := by decide +kernel
theorem dTL_init_12 : decode cTL_init 12 = .ok (.aload_n 0, 1) := by decide +kernel
theorem dTL_init_13 : decode cTL_init 13 = .ok (.getfield 9, 3) := by decide +kernel
theorem dTL_init_16 : decode cTL_init 16 = .ok (.bipush 6, 2) := by decide +kernel
theorem dTL_init_18 : decode cTL_init 18 = .ok (.ldc2_w 15, 3) := by decide +kernel
theorem dTL_init_21 : decode cTL_init 21 = .ok (.lastore, 1) := by decide +kernel
theorem dTL_init_22 : decode cTL_init 22 = .ok (.return_, 1) := by decide +kernel
theorem dCV_init_0 : decode cCV_init 0 = .ok (.aload_n 0, 1) := by decide +kernel
theorem dCV_init_1 : decode cCV_init 1 = .ok (.invokespecial 3, 3) := by decide +kernel
theorem dCV_init_4 : decode cCV_init 4 = .ok (.aload_n 0, 1) := by decide +kernel
theorem dCV_init_5 : decode cCV_init 5 = .ok (.iconst 4, 1) := by decide +kernel
theorem dCV_init_6 : decode cCV_init 6 = .ok (.newarray .int, 2) := by decide +kernel
theorem dCV_init_8 : decode cCV_init 8 = .ok (.putfield 9, 3) := by decide +kernel
theorem dCV_init_11 : decode cCV_init 11 = .ok (.aload_n 0, 1) := by decide +kernel
theorem dCV_init_12 : decode cCV_init 12 = .ok (.iconst 4, 1) := by decide +kernel
theorem dCV_init_13 : decode cCV_init 13 = .ok (.bipush 100, 2) := by decide +kernel
theorem dCV_init_15 : decode cCV_init 15 = .ok (.multianewarray 15 2, 4) := by decide +kernel
theorem dCV_init_19 : decode cCV_init 19 = .ok (.putfield 17, 3) := by decide +kernel
theorem dCV_init_22 : decode cCV_init 22 = .ok (.return_, 1) := by decide +kernel
theorem dJN_init_0 : decode cJN_init 0 = .ok (.aload_n 0, 1) := by decide +kernel
theorem dJN_init_1 : decode cJN_init 1 = .ok (.invokespecial 1, 3) := by decide +kernel
theorem dJN_init_4 : decode cJN_init 4 = .ok (.aload_n 0, 1) := by decide +kernel
theorem dJN_init_5 : decode cJN_init 5 = .ok (.bipush 64, 2) := by decide +kernel
theorem dJN_init_7 : decode cJN_init 7 = .ok (.newarray .long, 2) := by decide +kernel
theorem dJN_init_9 : decode cJN_init 9 = .ok (.putfield 9, 3) := by decide +kernel
theorem dJN_init_12 : decode cJN_init 12 = .ok (.aload_n 0, 1) := by decide +kernel
theorem dJN_init_13 : decode cJN_init 13 = .ok (.iconst 0, 1) := by decide +kernel
theorem dJN_init_14 : decode cJN_init 14 = .ok (.putfield 13, 3) := by decide +kernel
theorem dJN_init_17 : decode cJN_init 17 = .ok (.aload_n 0, 1) := by decide +kernel
theorem dJN_init_18 : decode cJN_init 18 = .ok (.iconst 0, 1) := by decide +kernel
theorem dJN_init_19 : decode cJN_init 19 = .ok (.putfield 17, 3) := by decide +kernel
theorem dJN_init_22 : decode cJN_init 22 = .ok (.return_, 1) := by decide +kernel
theorem dPD_collect_0 : decode cPD_collect 0 = .ok (.iload_n 1, 1) := by decide +kernel
theorem dPD_collect_1 : decode cPD_collect 1 = .ok (.lload_n 2, 1) := by decide +kernel
theorem dPD_collect_2 : decode cPD_collect 2 = .ok (.invokestatic 19, 3) := by decide +kernel
theorem dPD_collect_5 : decode cPD_collect 5 = .ok (.ifCond .eq 17, 3) := by decide +kernel
theorem dPD_collect_8 : decode cPD_collect 8 = .ok (.aload_n 0, 1) := by decide +kernel
theorem dPD_collect_9 : decode cPD_collect 9 = .ok (.getfield 10, 3) := by decide +kernel
theorem dPD_collect_12 : decode cPD_collect 12 = .ok (.getfield 25, 3) := by decide +kernel
theorem dPD_collect_15 : decode cPD_collect 15 = .ok (.iload_n 1, 1) := by decide +kernel
theorem dPD_collect_16 : decode cPD_collect 16 = .ok (.invokevirtual 29, 3) := by decide +kernel
theorem dPD_collect_19 : decode cPD_collect 19 = .ok (.ifCond .eq 5, 3) := by decide +kernel
theorem dPD_collect_22 : decode cPD_collect 22 = .ok (.iconst (-1), 1) := by decide +kernel
theorem dPD_collect_23 : decode cPD_collect 23 = .ok (.ireturn, 1) := by decide +kernel
theorem dPD_collect_24 : decode cPD_collect 24 = .ok (.aload_n 0, 1) := by decide +kernel
theorem dPD_collect_25 : decode cPD_collect 25 = .ok (.getfield 16, 3) := by decide +kernel
theorem dPD_collect_28 : decode cPD_collect 28 = .ok (.iload_n 1, 1) := by decide +kernel
theorem dPD_collect_29 : decode cPD_collect 29 = .ok (.lload_n 2, 1) := by decide +kernel
theorem dPD_collect_30 : decode cPD_collect 30 = .ok (.invokevirtual 33, 3) := by decide +kernel
theorem dPD_collect_33 : decode cPD_collect 33 = .ok (.pop, 1) := by decide +kernel
theorem dPD_collect_34 : decode cPD_collect 34 = .ok (.aload_n 0, 1) := by decide +kernel
theorem dPD_collect_35 : decode cPD_collect 35 = .ok (.getfield 10, 3) := by decide +kernel
theorem dPD_collect_38 : decode cPD_collect 38 = .ok (.iload_n 1, 1) := by decide +kernel
theorem dPD_collect_39 : decode cPD_collect 39 = .ok (.lload_n 2, 1) := by decide +kernel
theorem dPD_collect_40 : decode cPD_collect 40 = .ok (.invokevirtual 33, 3) := by decide +kernel
theorem dPD_collect_43 : decode cPD_collect 43 = .ok (.ireturn, 1) := by decide +kernel
theorem dCV_canHold_0 : decode cCV_canHold 0 = .ok (.iload_n 0, 1) := by decide +kernel
theorem dCV_canHold_1 : decode cCV_canHold 1 = .ok (.tableswitch 95 0 3 #[31, 53, 73, 75], 31) := by decide +kernel
theorem dCV_canHold_32 : decode cCV_canHold 32 = .ok (.lload_n 1, 1) := by decide +kernel
theorem dCV_canHold_33 : decode cCV_canHold 33 = .ok (.ldc2_w 20, 3) := by decide +kernel
theorem dCV_canHold_36 : decode cCV_canHold 36 = .ok (.lcmp, 1) := by decide +kernel
theorem dCV_canHold_37 : decode cCV_canHold 37 = .ok (.ifCond .lt 15, 3) := by decide +kernel
theorem dCV_canHold_40 : decode cCV_canHold 40 = .ok (.lload_n 1, 1) := by decide +kernel
theorem dCV_canHold_41 : decode cCV_canHold 41 = .ok (.ldc2_w 22, 3) := by decide +kernel
theorem dCV_canHold_44 : decode cCV_canHold 44 = .ok (.lcmp, 1) := by decide +kernel
theorem dCV_canHold_45 : decode cCV_canHold 45 = .ok (.ifCond .gt 7, 3) := by decide +kernel
theorem dCV_canHold_48 : decode cCV_canHold 48 = .ok (.iconst 1, 1) := by decide +kernel
theorem dCV_canHold_49 : decode cCV_canHold 49 = .ok (.goto 4, 3) := by decide +kernel
theorem dCV_canHold_52 : decode cCV_canHold 52 = .ok (.iconst 0, 1) := by decide +kernel
theorem dCV_canHold_53 : decode cCV_canHold 53 = .ok (.ireturn, 1) := by decide +kernel
theorem dCV_canHold_54 : decode cCV_canHold 54 = .ok (.lload_n 1, 1) := by decide +kernel
theorem dCV_canHold_55 : decode cCV_canHold 55 = .ok (.lconst 0, 1) := by decide +kernel
theorem dCV_canHold_56 : decode cCV_canHold 56 = .ok (.lcmp, 1) := by decide +kernel
theorem dCV_canHold_57 : decode cCV_canHold 57 = .ok (.ifCond .lt 15, 3) := by decide +kernel
theorem dCV_canHold_60 : decode cCV_canHold 60 = .ok (.lload_n 1, 1) := by decide +kernel
theorem dCV_canHold_61 : decode cCV_canHold 61 = .ok (.ldc2_w 24, 3) := by decide +kernel
theorem dCV_canHold_64 : decode cCV_canHold 64 = .ok (.lcmp, 1) := by decide +kernel
theorem dCV_canHold_65 : decode cCV_canHold 65 = .ok (.ifCond .gt 7, 3) := by decide +kernel
theorem dCV_canHold_68 : decode cCV_canHold 68 = .ok (.iconst 1, 1) := by decide +kernel
theorem dCV_canHold_69 : decode cCV_canHold 69 = .ok (.goto 4, 3) := by decide +kernel
theorem dCV_canHold_72 : decode cCV_canHold 72 = .ok (.iconst 0, 1) := by decide +kernel
theorem dCV_canHold_73 : decode cCV_canHold 73 = .ok (.ireturn, 1) := by decide +kernel
theorem dCV_canHold_74 : decode cCV_canHold 74 = .ok (.iconst 1, 1) := by decide +kernel
theorem dCV_canHold_75 : decode cCV_canHold 75 = .ok (.ireturn, 1) := by decide +kernel
theorem dCV_canHold_76 : decode cCV_canHold 76 = .ok (.lload_n 1, 1) := by decide +kernel
theorem dCV_canHold_77 : decode cCV_canHold 77 = .ok (.lconst 0, 1) := by decide +kernel
theorem dCV_canHold_78 : decode cCV_canHold 78 = .ok (.lcmp, 1) := by decide +kernel
theorem dCV_canHold_79 : decode cCV_canHold 79 = .ok (.ifCond .lt 15, 3) := by decide +kernel
theorem dCV_canHold_82 : decode cCV_canHold 82 = .ok (.lload_n 1, 1) := by decide +kernel
theorem dCV_canHold_83 : decode cCV_canHold 83 = .ok (.ldc2_w 26, 3) := by decide +kernel
theorem dCV_canHold_86 : decode cCV_canHold 86 = .ok (.lcmp, 1) := by decide +kernel
theorem dCV_canHold_87 : decode cCV_canHold 87 = .ok (.ifCond .ge 7, 3) := by decide +kernel
theorem dCV_canHold_90 : decode cCV_canHold 90 = .ok (.iconst 1, 1) := by decide +kernel
theorem dCV_canHold_91 : decode cCV_canHold 91 = .ok (.goto 4, 3) := by decide +kernel
theorem dCV_canHold_94 : decode cCV_canHold 94 = .ok (.iconst 0, 1) := by decide +kernel
theorem dCV_canHold_95 : decode cCV_canHold 95 = .ok (.ireturn, 1) := by decide +kernel
theorem dCV_canHold_96 : decode cCV_canHold 96 = .ok (.iconst 0, 1) := by decide +kernel
theorem dCV_canHold_97 : decode cCV_canHold 97 = .ok (.ireturn, 1) := by decide +kernel
theorem dCV_isFull_0 : decode cCV_isFull 0 = .ok (.aload_n 0, 1) := by decide +kernel
theorem dCV_isFull_1 : decode cCV_isFull 1 = .ok (.getfield 9, 3) := by decide +kernel
theorem dCV_isFull_4 : decode cCV_isFull 4 = .ok (.iload_n 1, 1) := by decide +kernel
theorem dCV_isFull_5 : decode cCV_isFull 5 = .ok (.iaload, 1) := by decide +kernel
theorem dCV_isFull_6 : decode cCV_isFull 6 = .ok (.bipush 100, 2) := by decide +kernel
theorem dCV_isFull_8 : decode cCV_isFull 8 = .ok (.if_icmp .lt 7, 3) := by decide +kernel
theorem dCV_isFull_11 : decode cCV_isFull 11 = .ok (.iconst 1, 1) := by decide +kernel
theorem dCV_isFull_12 : decode cCV_isFull 12 = .ok (.goto 4, 3) := by decide +kernel
theorem dCV_isFull_15 : decode cCV_isFull 15 = .ok (.iconst 0, 1) := by decide +kernel
theorem dCV_isFull_16 : decode cCV_isFull 16 = .ok (.ireturn, 1) := by decide +kernel
theorem dDK_take_0 : decode cDK_take 0 = .ok (.iload_n 1, 1) := by decide +kernel
theorem dDK_take_1 : decode cDK_take 1 = .ok (.iconst 3, 1) := by decide +kernel
theorem dDK_take_2 : decode cDK_take 2 = .ok (.if_icmp .ne 25, 3) := by decide +kernel
theorem dDK_take_5 : decode cDK_take 5 = .ok (.aload_n 0, 1) := by decide +kernel
theorem dDK_take_6 : decode cDK_take 6 = .ok (.getfield 12, 3) := by decide +kernel
theorem dDK_take_9 : decode cDK_take 9 = .ok (.lload_n 2, 1) := by decide +kernel
theorem dDK_take_10 : decode cDK_take 10 = .ok (.l2i, 1) := by decide +kernel
theorem dDK_take_11 : decode cDK_take 11 = .ok (.invokevirtual 46, 3) := by decide +kernel
theorem dDK_take_14 : decode cDK_take 14 = .ok (.ifCond .ne 13, 3) := by decide +kernel
theorem dDK_take_17 : decode cDK_take 17 = .ok (.aload_n 0, 1) := by decide +kernel
theorem dDK_take_18 : decode cDK_take 18 = .ok (.getfield 12, 3) := by decide +kernel
theorem dDK_take_21 : decode cDK_take 21 = .ok (.lload_n 2, 1) := by decide +kernel
theorem dDK_take_22 : decode cDK_take 22 = .ok (.l2i, 1) := by decide +kernel
theorem dDK_take_23 : decode cDK_take 23 = .ok (.invokevirtual 50, 3) := by decide +kernel
theorem dDK_take_26 : decode cDK_take 26 = .ok (.pop, 1) := by decide +kernel
theorem dDK_take_27 : decode cDK_take 27 = .ok (.aload_n 0, 1) := by decide +kernel
theorem dDK_take_28 : decode cDK_take 28 = .ok (.getfield 35, 3) := by decide +kernel
theorem dDK_take_31 : decode cDK_take 31 = .ok (.iload_n 1, 1) := by decide +kernel
theorem dDK_take_32 : decode cDK_take 32 = .ok (.lload_n 2, 1) := by decide +kernel
theorem dDK_take_33 : decode cDK_take 33 = .ok (.invokevirtual 54, 3) := by decide +kernel
theorem dDK_take_36 : decode cDK_take 36 = .ok (.ireturn, 1) := by decide +kernel
theorem dNU_isFull_0 : decode cNU_isFull 0 = .ok (.aload_n 0, 1) := by decide +kernel
theorem dNU_isFull_1 : decode cNU_isFull 1 = .ok (.getfield 9, 3) := by decide +kernel
theorem dNU_isFull_4 : decode cNU_isFull 4 = .ok (.iload_n 1, 1) := by decide +kernel
theorem dNU_isFull_5 : decode cNU_isFull 5 = .ok (.iaload, 1) := by decide +kernel
theorem dNU_isFull_6 : decode cNU_isFull 6 = .ok (.bipush 40, 2) := by decide +kernel
theorem dNU_isFull_8 : decode cNU_isFull 8 = .ok (.if_icmp .lt 7, 3) := by decide +kernel
theorem dNU_isFull_11 : decode cNU_isFull 11 = .ok (.iconst 1, 1) := by decide +kernel
theorem dNU_isFull_12 : decode cNU_isFull 12 = .ok (.goto 4, 3) := by decide +kernel
theorem dNU_isFull_15 : decode cNU_isFull 15 = .ok (.iconst 0, 1) := by decide +kernel
theorem dNU_isFull_16 : decode cNU_isFull 16 = .ok (.ireturn, 1) := by decide +kernel
theorem dNU_makeNext_0 : decode cNU_makeNext 0 = .ok (.aload_n 0, 1) := by decide +kernel
theorem dNU_makeNext_1 : decode cNU_makeNext 1 = .ok (.getfield 9, 3) := by decide +kernel
theorem dNU_makeNext_4 : decode cNU_makeNext 4 = .ok (.iload_n 1, 1) := by decide +kernel
theorem dNU_makeNext_5 : decode cNU_makeNext 5 = .ok (.dup2, 1) := by decide +kernel
theorem dNU_makeNext_6 : decode cNU_makeNext 6 = .ok (.iaload, 1) := by decide +kernel
theorem dNU_makeNext_7 : decode cNU_makeNext 7 = .ok (.iconst 1, 1) := by decide +kernel
theorem dNU_makeNext_8 : decode cNU_makeNext 8 = .ok (.iadd, 1) := by decide +kernel
theorem dNU_makeNext_9 : decode cNU_makeNext 9 = .ok (.iastore, 1) := by decide +kernel
theorem dNU_makeNext_10 : decode cNU_makeNext 10 = .ok (.aload_n 0, 1) := by decide +kernel
theorem dNU_makeNext_11 : decode cNU_makeNext 11 = .ok (.getfield 15, 3) := by decide +kernel
theorem dNU_makeNext_14 : decode cNU_makeNext 14 = .ok (.iload_n 1, 1) := by decide +kernel
theorem dNU_makeNext_15 : decode cNU_makeNext 15 = .ok (.dup2, 1) := by decide +kernel
theorem dNU_makeNext_16 : decode cNU_makeNext 16 = .ok (.laload, 1) := by decide +kernel
theorem dNU_makeNext_17 : decode cNU_makeNext 17 = .ok (.aload_n 0, 1) := by decide +kernel
theorem dNU_makeNext_18 : decode cNU_makeNext 18 = .ok (.getfield 9, 3) := by decide +kernel
theorem dNU_makeNext_21 : decode cNU_makeNext 21 = .ok (.iload_n 1, 1) := by decide +kernel
theorem dNU_makeNext_22 : decode cNU_makeNext 22 = .ok (.iaload, 1) := by decide +kernel
theorem dNU_makeNext_23 : decode cNU_makeNext 23 = .ok (.invokestatic 19, 3) := by decide +kernel
theorem dNU_makeNext_26 : decode cNU_makeNext 26 = .ok (.lor, 1) := by decide +kernel
theorem dNU_makeNext_27 : decode cNU_makeNext 27 = .ok (.lastore, 1) := by decide +kernel
theorem dNU_makeNext_28 : decode cNU_makeNext 28 = .ok (.aload_n 0, 1) := by decide +kernel
theorem dNU_makeNext_29 : decode cNU_makeNext 29 = .ok (.getfield 9, 3) := by decide +kernel
theorem dNU_makeNext_32 : decode cNU_makeNext 32 = .ok (.iload_n 1, 1) := by decide +kernel
theorem dNU_makeNext_33 : decode cNU_makeNext 33 = .ok (.iaload, 1) := by decide +kernel
theorem dNU_makeNext_34 : decode cNU_makeNext 34 = .ok (.ireturn, 1) := by decide +kernel
theorem dNU_bitOf_0 : decode cNU_bitOf 0 = .ok (.lconst 1, 1) := by decide +kernel
theorem dNU_bitOf_1 : decode cNU_bitOf 1 = .ok (.iload_n 0, 1) := by decide +kernel
theorem dNU_bitOf_2 : decode cNU_bitOf 2 = .ok (.iconst 1, 1) := by decide +kernel
theorem dNU_bitOf_3 : decode cNU_bitOf 3 = .ok (.isub, 1) := by decide +kernel
theorem dNU_bitOf_4 : decode cNU_bitOf 4 = .ok (.lshl, 1) := by decide +kernel
theorem dNU_bitOf_5 : decode cNU_bitOf 5 = .ok (.lreturn, 1) := by decide +kernel
theorem dCV_add_0 : decode cCV_add 0 = .ok (.aload_n 0, 1) := by decide +kernel
theorem dCV_add_1 : decode cCV_add 1 = .ok (.getfield 17, 3) := by decide +kernel
theorem dCV_add_4 : decode cCV_add 4 = .ok (.iload_n 1, 1) := by decide +kernel
theorem dCV_add_5 : decode cCV_add 5 = .ok (.aaload, 1) := by decide +kernel
theorem dCV_add_6 : decode cCV_add 6 = .ok (.aload_n 0, 1) := by decide +kernel
theorem dCV_add_7 : decode cCV_add 7 = .ok (.getfield 9, 3) := by decide +kernel
theorem dCV_add_10 : decode cCV_add 10 = .ok (.iload_n 1, 1) := by decide +kernel
theorem dCV_add_11 : decode cCV_add 11 = .ok (.iaload, 1) := by decide +kernel
theorem dCV_add_12 : decode cCV_add 12 = .ok (.lload_n 2, 1) := by decide +kernel
theorem dCV_add_13 : decode cCV_add 13 = .ok (.lastore, 1) := by decide +kernel
theorem dCV_add_14 : decode cCV_add 14 = .ok (.aload_n 0, 1) := by decide +kernel
theorem dCV_add_15 : decode cCV_add 15 = .ok (.getfield 9, 3) := by decide +kernel
theorem dCV_add_18 : decode cCV_add 18 = .ok (.iload_n 1, 1) := by decide +kernel
theorem dCV_add_19 : decode cCV_add 19 = .ok (.dup2, 1) := by decide +kernel
theorem dCV_add_20 : decode cCV_add 20 = .ok (.iaload, 1) := by decide +kernel
theorem dCV_add_21 : decode cCV_add 21 = .ok (.iconst 1, 1) := by decide +kernel
theorem dCV_add_22 : decode cCV_add 22 = .ok (.iadd, 1) := by decide +kernel
theorem dCV_add_23 : decode cCV_add 23 = .ok (.iastore, 1) := by decide +kernel
theorem dCV_add_24 : decode cCV_add 24 = .ok (.aload_n 0, 1) := by decide +kernel
theorem dCV_add_25 : decode cCV_add 25 = .ok (.getfield 9, 3) := by decide +kernel
theorem dCV_add_28 : decode cCV_add 28 = .ok (.iload_n 1, 1) := by decide +kernel
theorem dCV_add_29 : decode cCV_add 29 = .ok (.iaload, 1) := by decide +kernel
theorem dCV_add_30 : decode cCV_add 30 = .ok (.ireturn, 1) := by decide +kernel
theorem dPD_answer_0 : decode cPD_answer 0 = .ok (.iload_n 1, 1) := by decide +kernel
theorem dPD_answer_1 : decode cPD_answer 1 = .ok (.invokestatic 37, 3) := by decide +kernel
theorem dPD_answer_4 : decode cPD_answer 4 = .ok (.ifCond .ne 5, 3) := by decide +kernel
theorem dPD_answer_7 : decode cPD_answer 7 = .ok (.iconst 0, 1) := by decide +kernel
theorem dPD_answer_8 : decode cPD_answer 8 = .ok (.ireturn, 1) := by decide +kernel
theorem dPD_answer_9 : decode cPD_answer 9 = .ok (.aload_n 0, 1) := by decide +kernel
theorem dPD_answer_10 : decode cPD_answer 10 = .ok (.getfield 10, 3) := by decide +kernel
theorem dPD_answer_13 : decode cPD_answer 13 = .ok (.getfield 40, 3) := by decide +kernel
theorem dPD_answer_16 : decode cPD_answer 16 = .ok (.iload_n 1, 1) := by decide +kernel
theorem dPD_answer_17 : decode cPD_answer 17 = .ok (.lload_n 2, 1) := by decide +kernel
theorem dPD_answer_18 : decode cPD_answer 18 = .ok (.invokevirtual 44, 3) := by decide +kernel
theorem dPD_answer_21 : decode cPD_answer 21 = .ok (.aload_n 0, 1) := by decide +kernel
theorem dPD_answer_22 : decode cPD_answer 22 = .ok (.getfield 16, 3) := by decide +kernel
theorem dPD_answer_25 : decode cPD_answer 25 = .ok (.getfield 40, 3) := by decide +kernel
theorem dPD_answer_28 : decode cPD_answer 28 = .ok (.iload_n 1, 1) := by decide +kernel
theorem dPD_answer_29 : decode cPD_answer 29 = .ok (.lload_n 2, 1) := by decide +kernel
theorem dPD_answer_30 : decode cPD_answer 30 = .ok (.invokevirtual 44, 3) := by decide +kernel
theorem dPD_answer_33 : decode cPD_answer 33 = .ok (.iconst 1, 1) := by decide +kernel
theorem dPD_answer_34 : decode cPD_answer 34 = .ok (.ireturn, 1) := by decide +kernel
theorem dPD_isPart_0 : decode cPD_isPart 0 = .ok (.iload_n 0, 1) := by decide +kernel
theorem dPD_isPart_1 : decode cPD_isPart 1 = .ok (.ifCond .lt 13, 3) := by decide +kernel
theorem dPD_isPart_4 : decode cPD_isPart 4 = .ok (.iload_n 0, 1) := by decide +kernel
theorem dPD_isPart_5 : decode cPD_isPart 5 = .ok (.bipush 12, 2) := by decide +kernel
theorem dPD_isPart_7 : decode cPD_isPart 7 = .ok (.if_icmp .ge 7, 3) := by decide +kernel
theorem dPD_isPart_10 : decode cPD_isPart 10 = .ok (.iconst 1, 1) := by decide +kernel
theorem dPD_isPart_11 : decode cPD_isPart 11 = .ok (.goto 4, 3) := by decide +kernel
theorem dPD_isPart_14 : decode cPD_isPart 14 = .ok (.iconst 0, 1) := by decide +kernel
theorem dPD_isPart_15 : decode cPD_isPart 15 = .ok (.ireturn, 1) := by decide +kernel
theorem dPT_setAnswer_0 : decode cPT_setAnswer 0 = .ok (.aload_n 0, 1) := by decide +kernel
theorem dPT_setAnswer_1 : decode cPT_setAnswer 1 = .ok (.getfield 9, 3) := by decide +kernel
theorem dPT_setAnswer_4 : decode cPT_setAnswer 4 = .ok (.iload_n 1, 1) := by decide +kernel
theorem dPT_setAnswer_5 : decode cPT_setAnswer 5 = .ok (.lload_n 2, 1) := by decide +kernel
theorem dPT_setAnswer_6 : decode cPT_setAnswer 6 = .ok (.lastore, 1) := by decide +kernel
theorem dPT_setAnswer_7 : decode cPT_setAnswer 7 = .ok (.return_, 1) := by decide +kernel
theorem dPD_fails_0 : decode cPD_fails 0 = .ok (.iload_n 1, 1) := by decide +kernel
theorem dPD_fails_1 : decode cPD_fails 1 = .ok (.invokestatic 37, 3) := by decide +kernel
theorem dPD_fails_4 : decode cPD_fails 4 = .ok (.ifCond .eq 12, 3) := by decide +kernel
theorem dPD_fails_7 : decode cPD_fails 7 = .ok (.iload_n 2, 1) := by decide +kernel
theorem dPD_fails_8 : decode cPD_fails 8 = .ok (.ifCond .lt 8, 3) := by decide +kernel
theorem dPD_fails_11 : decode cPD_fails 11 = .ok (.iload_n 2, 1) := by decide +kernel
theorem dPD_fails_12 : decode cPD_fails 12 = .ok (.iconst 5, 1) := by decide +kernel
theorem dPD_fails_13 : decode cPD_fails 13 = .ok (.if_icmp .le 5, 3) := by decide +kernel
theorem dPD_fails_16 : decode cPD_fails 16 = .ok (.iconst 0, 1) := by decide +kernel
theorem dPD_fails_17 : decode cPD_fails 17 = .ok (.ireturn, 1) := by decide +kernel
theorem dPD_fails_18 : decode cPD_fails 18 = .ok (.aload_n 0, 1) := by decide +kernel
theorem dPD_fails_19 : decode cPD_fails 19 = .ok (.getfield 10, 3) := by decide +kernel
theorem dPD_fails_22 : decode cPD_fails 22 = .ok (.getfield 40, 3) := by decide +kernel
theorem dPD_fails_25 : decode cPD_fails 25 = .ok (.iload_n 1, 1) := by decide +kernel
theorem dPD_fails_26 : decode cPD_fails 26 = .ok (.iload_n 2, 1) := by decide +kernel
theorem dPD_fails_27 : decode cPD_fails 27 = .ok (.invokevirtual 50, 3) := by decide +kernel
theorem dPD_fails_30 : decode cPD_fails 30 = .ok (.aload_n 0, 1) := by decide +kernel
theorem dPD_fails_31 : decode cPD_fails 31 = .ok (.getfield 16, 3) := by decide +kernel
theorem dPD_fails_34 : decode cPD_fails 34 = .ok (.getfield 40, 3) := by decide +kernel
theorem dPD_fails_37 : decode cPD_fails 37 = .ok (.iload_n 1, 1) := by decide +kernel
theorem dPD_fails_38 : decode cPD_fails 38 = .ok (.iload_n 2, 1) := by decide +kernel
theorem dPD_fails_39 : decode cPD_fails 39 = .ok (.invokevirtual 50, 3) := by decide +kernel
theorem dPD_fails_42 : decode cPD_fails 42 = .ok (.iconst 1, 1) := by decide +kernel
theorem dPD_fails_43 : decode cPD_fails 43 = .ok (.ireturn, 1) := by decide +kernel
theorem dPT_setFailure_0 : decode cPT_setFailure 0 = .ok (.aload_n 0, 1) := by decide +kernel
theorem dPT_setFailure_1 : decode cPT_setFailure 1 = .ok (.getfield 18, 3) := by decide +kernel
theorem dPT_setFailure_4 : decode cPT_setFailure 4 = .ok (.iload_n 1, 1) := by decide +kernel
theorem dPT_setFailure_5 : decode cPT_setFailure 5 = .ok (.iload_n 2, 1) := by decide +kernel
theorem dPT_setFailure_6 : decode cPT_setFailure 6 = .ok (.iastore, 1) := by decide +kernel
theorem dPT_setFailure_7 : decode cPT_setFailure 7 = .ok (.return_, 1) := by decide +kernel
theorem dPD_drop_0 : decode cPD_drop 0 = .ok (.iload_n 1, 1) := by decide +kernel
theorem dPD_drop_1 : decode cPD_drop 1 = .ok (.invokestatic 54, 3) := by decide +kernel
theorem dPD_drop_4 : decode cPD_drop 4 = .ok (.ifCond .eq 18, 3) := by decide +kernel
theorem dPD_drop_7 : decode cPD_drop 7 = .ok (.aload_n 0, 1) := by decide +kernel
theorem dPD_drop_8 : decode cPD_drop 8 = .ok (.getfield 10, 3) := by decide +kernel
theorem dPD_drop_11 : decode cPD_drop 11 = .ok (.getfield 64, 3) := by decide +kernel
theorem dPD_drop_14 : decode cPD_drop 14 = .ok (.iload_n 1, 1) := by decide +kernel
theorem dPD_drop_15 : decode cPD_drop 15 = .ok (.iload_n 2, 1) := by decide +kernel
theorem dPD_drop_16 : decode cPD_drop 16 = .ok (.invokevirtual 80, 3) := by decide +kernel
theorem dPD_drop_19 : decode cPD_drop 19 = .ok (.ifCond .ne 5, 3) := by decide +kernel
theorem dPD_drop_22 : decode cPD_drop 22 = .ok (.iconst 0, 1) := by decide +kernel
theorem dPD_drop_23 : decode cPD_drop 23 = .ok (.ireturn, 1) := by decide +kernel
theorem dPD_drop_24 : decode cPD_drop 24 = .ok (.aload_n 0, 1) := by decide +kernel
theorem dPD_drop_25 : decode cPD_drop 25 = .ok (.getfield 10, 3) := by decide +kernel
theorem dPD_drop_28 : decode cPD_drop 28 = .ok (.getfield 64, 3) := by decide +kernel
theorem dPD_drop_31 : decode cPD_drop 31 = .ok (.iload_n 1, 1) := by decide +kernel
theorem dPD_drop_32 : decode cPD_drop 32 = .ok (.iload_n 2, 1) := by decide +kernel
theorem dPD_drop_33 : decode cPD_drop 33 = .ok (.invokevirtual 84, 3) := by decide +kernel
theorem dPD_drop_36 : decode cPD_drop 36 = .ok (.aload_n 0, 1) := by decide +kernel
theorem dPD_drop_37 : decode cPD_drop 37 = .ok (.getfield 16, 3) := by decide +kernel
theorem dPD_drop_40 : decode cPD_drop 40 = .ok (.getfield 64, 3) := by decide +kernel
theorem dPD_drop_43 : decode cPD_drop 43 = .ok (.iload_n 1, 1) := by decide +kernel
theorem dPD_drop_44 : decode cPD_drop 44 = .ok (.iload_n 2, 1) := by decide +kernel
theorem dPD_drop_45 : decode cPD_drop 45 = .ok (.invokevirtual 84, 3) := by decide +kernel
theorem dPD_drop_48 : decode cPD_drop 48 = .ok (.iconst 1, 1) := by decide +kernel
theorem dPD_drop_49 : decode cPD_drop 49 = .ok (.ireturn, 1) := by decide +kernel
theorem dPD_isKind_0 : decode cPD_isKind 0 = .ok (.iload_n 0, 1) := by decide +kernel
theorem dPD_isKind_1 : decode cPD_isKind 1 = .ok (.ifCond .lt 13, 3) := by decide +kernel
theorem dPD_isKind_4 : decode cPD_isKind 4 = .ok (.iload_n 0, 1) := by decide +kernel
theorem dPD_isKind_5 : decode cPD_isKind 5 = .ok (.bipush 8, 2) := by decide +kernel
theorem dPD_isKind_7 : decode cPD_isKind 7 = .ok (.if_icmp .ge 7, 3) := by decide +kernel
theorem dPD_isKind_10 : decode cPD_isKind 10 = .ok (.iconst 1, 1) := by decide +kernel
theorem dPD_isKind_11 : decode cPD_isKind 11 = .ok (.goto 4, 3) := by decide +kernel
theorem dPD_isKind_14 : decode cPD_isKind 14 = .ok (.iconst 0, 1) := by decide +kernel
theorem dPD_isKind_15 : decode cPD_isKind 15 = .ok (.ireturn, 1) := by decide +kernel
theorem dNU_isKnown_0 : decode cNU_isKnown 0 = .ok (.aload_n 0, 1) := by decide +kernel
theorem dNU_isKnown_1 : decode cNU_isKnown 1 = .ok (.iload_n 1, 1) := by decide +kernel
theorem dNU_isKnown_2 : decode cNU_isKnown 2 = .ok (.iload_n 2, 1) := by decide +kernel
theorem dNU_isKnown_3 : decode cNU_isKnown 3 = .ok (.invokevirtual 25, 3) := by decide +kernel
theorem dNU_isKnown_6 : decode cNU_isKnown 6 = .ok (.ifCond .eq 23, 3) := by decide +kernel
theorem dNU_isKnown_9 : decode cNU_isKnown 9 = .ok (.aload_n 0, 1) := by decide +kernel
theorem dNU_isKnown_10 : decode cNU_isKnown 10 = .ok (.getfield 15, 3) := by decide +kernel
theorem dNU_isKnown_13 : decode cNU_isKnown 13 = .ok (.iload_n 1, 1) := by decide +kernel
theorem dNU_isKnown_14 : decode cNU_isKnown 14 = .ok (.laload, 1) := by decide +kernel
theorem dNU_isKnown_15 : decode cNU_isKnown 15 = .ok (.iload_n 2, 1) := by decide +kernel
theorem dNU_isKnown_16 : decode cNU_isKnown 16 = .ok (.invokestatic 19, 3) := by decide +kernel
theorem dNU_isKnown_19 : decode cNU_isKnown 19 = .ok (.land, 1) := by decide +kernel
theorem dNU_isKnown_20 : decode cNU_isKnown 20 = .ok (.lconst 0, 1) := by decide +kernel
theorem dNU_isKnown_21 : decode cNU_isKnown 21 = .ok (.lcmp, 1) := by decide +kernel
theorem dNU_isKnown_22 : decode cNU_isKnown 22 = .ok (.ifCond .eq 7, 3) := by decide +kernel
theorem dNU_isKnown_25 : decode cNU_isKnown 25 = .ok (.iconst 1, 1) := by decide +kernel
theorem dNU_isKnown_26 : decode cNU_isKnown 26 = .ok (.goto 4, 3) := by decide +kernel
theorem dNU_isKnown_29 : decode cNU_isKnown 29 = .ok (.iconst 0, 1) := by decide +kernel
theorem dNU_isKnown_30 : decode cNU_isKnown 30 = .ok (.ireturn, 1) := by decide +kernel
theorem dNU_wasMade_0 : decode cNU_wasMade 0 = .ok (.iload_n 2, 1) := by decide +kernel
theorem dNU_wasMade_1 : decode cNU_wasMade 1 = .ok (.iconst 1, 1) := by decide +kernel
theorem dNU_wasMade_2 : decode cNU_wasMade 2 = .ok (.if_icmp .lt 17, 3) := by decide +kernel
theorem dNU_wasMade_5 : decode cNU_wasMade 5 = .ok (.iload_n 2, 1) := by decide +kernel
theorem dNU_wasMade_6 : decode cNU_wasMade 6 = .ok (.aload_n 0, 1) := by decide +kernel
theorem dNU_wasMade_7 : decode cNU_wasMade 7 = .ok (.getfield 9, 3) := by decide +kernel
theorem dNU_wasMade_10 : decode cNU_wasMade 10 = .ok (.iload_n 1, 1) := by decide +kernel
theorem dNU_wasMade_11 : decode cNU_wasMade 11 = .ok (.iaload, 1) := by decide +kernel
theorem dNU_wasMade_12 : decode cNU_wasMade 12 = .ok (.if_icmp .gt 7, 3) := by decide +kernel
theorem dNU_wasMade_15 : decode cNU_wasMade 15 = .ok (.iconst 1, 1) := by decide +kernel
theorem dNU_wasMade_16 : decode cNU_wasMade 16 = .ok (.goto 4, 3) := by decide +kernel
theorem dNU_wasMade_19 : decode cNU_wasMade 19 = .ok (.iconst 0, 1) := by decide +kernel
theorem dNU_wasMade_20 : decode cNU_wasMade 20 = .ok (.ireturn, 1) := by decide +kernel
theorem dNU_forget_0 : decode cNU_forget 0 = .ok (.aload_n 0, 1) := by decide +kernel
theorem dNU_forget_1 : decode cNU_forget 1 = .ok (.getfield 15, 3) := by decide +kernel
theorem dNU_forget_4 : decode cNU_forget 4 = .ok (.iload_n 1, 1) := by decide +kernel
theorem dNU_forget_5 : decode cNU_forget 5 = .ok (.dup2, 1) := by decide +kernel
theorem dNU_forget_6 : decode cNU_forget 6 = .ok (.laload, 1) := by decide +kernel
theorem dNU_forget_7 : decode cNU_forget 7 = .ok (.iload_n 2, 1) := by decide +kernel
theorem dNU_forget_8 : decode cNU_forget 8 = .ok (.invokestatic 19, 3) := by decide +kernel
theorem dNU_forget_11 : decode cNU_forget 11 = .ok (.ldc2_w 23, 3) := by decide +kernel
theorem dNU_forget_14 : decode cNU_forget 14 = .ok (.lxor, 1) := by decide +kernel
theorem dNU_forget_15 : decode cNU_forget 15 = .ok (.land, 1) := by decide +kernel
theorem dNU_forget_16 : decode cNU_forget 16 = .ok (.lastore, 1) := by decide +kernel
theorem dNU_forget_17 : decode cNU_forget 17 = .ok (.return_, 1) := by decide +kernel
theorem dPD_call_0 : decode cPD_call 0 = .ok (.aload_n 0, 1) := by decide +kernel
theorem dPD_call_1 : decode cPD_call 1 = .ok (.getfield 16, 3) := by decide +kernel
theorem dPD_call_4 : decode cPD_call 4 = .ok (.iload_n 1, 1) := by decide +kernel
theorem dPD_call_5 : decode cPD_call 5 = .ok (.iload_n 2, 1) := by decide +kernel
theorem dPD_call_6 : decode cPD_call 6 = .ok (.lload_n 3, 1) := by decide +kernel
theorem dPD_call_7 : decode cPD_call 7 = .ok (.invokevirtual 87, 3) := by decide +kernel
theorem dPD_call_10 : decode cPD_call 10 = .ok (.pop2, 1) := by decide +kernel
theorem dPD_call_11 : decode cPD_call 11 = .ok (.aload_n 0, 1) := by decide +kernel
theorem dPD_call_12 : decode cPD_call 12 = .ok (.getfield 10, 3) := by decide +kernel
theorem dPD_call_15 : decode cPD_call 15 = .ok (.iload_n 1, 1) := by decide +kernel
theorem dPD_call_16 : decode cPD_call 16 = .ok (.iload_n 2, 1) := by decide +kernel
theorem dPD_call_17 : decode cPD_call 17 = .ok (.lload_n 3, 1) := by decide +kernel
theorem dPD_call_18 : decode cPD_call 18 = .ok (.invokevirtual 87, 3) := by decide +kernel
theorem dPD_call_21 : decode cPD_call 21 = .ok (.lreturn, 1) := by decide +kernel
theorem dDK_ask_0 : decode cDK_ask 0 = .ok (.aload_n 0, 1) := by decide +kernel
theorem dDK_ask_1 : decode cDK_ask 1 = .ok (.iload_n 1, 1) := by decide +kernel
theorem dDK_ask_2 : decode cDK_ask 2 = .ok (.iload_n 2, 1) := by decide +kernel
theorem dDK_ask_3 : decode cDK_ask 3 = .ok (.lload_n 3, 1) := by decide +kernel
theorem dDK_ask_4 : decode cDK_ask 4 = .ok (.invokevirtual 58, 3) := by decide +kernel
theorem dDK_ask_7 : decode cDK_ask 7 = .ok (.lstore 5, 2) := by decide +kernel
theorem dDK_ask_9 : decode cDK_ask 9 = .ok (.aload_n 0, 1) := by decide +kernel
theorem dDK_ask_10 : decode cDK_ask 10 = .ok (.getfield 42, 3) := by decide +kernel
theorem dDK_ask_13 : decode cDK_ask 13 = .ok (.lload 5, 2) := by decide +kernel
theorem dDK_ask_15 : decode cDK_ask 15 = .ok (.invokevirtual 62, 3) := by decide +kernel
theorem dDK_ask_18 : decode cDK_ask 18 = .ok (.lload 5, 2) := by decide +kernel
theorem dDK_ask_20 : decode cDK_ask 20 = .ok (.lreturn, 1) := by decide +kernel
theorem dDK_answerOrRefuse_0 : decode cDK_answerOrRefuse 0 = .ok (.iload_n 1, 1) := by decide +kernel
theorem dDK_answerOrRefuse_1 : decode cDK_answerOrRefuse 1 = .ok (.invokestatic 66, 3) := by decide +kernel
theorem dDK_answerOrRefuse_4 : decode cDK_answerOrRefuse 4 = .ok (.ifCond .ne 9, 3) := by decide +kernel
theorem dDK_answerOrRefuse_7 : decode cDK_answerOrRefuse 7 = .ok (.aload_n 0, 1) := by decide +kernel
theorem dDK_answerOrRefuse_8 : decode cDK_answerOrRefuse 8 = .ok (.iconst 1, 1) := by decide +kernel
theorem dDK_answerOrRefuse_9 : decode cDK_answerOrRefuse 9 = .ok (.invokevirtual 69, 3) := by decide +kernel
theorem dDK_answerOrRefuse_12 : decode cDK_answerOrRefuse 12 = .ok (.lreturn, 1) := by decide +kernel
theorem dDK_answerOrRefuse_13 : decode cDK_answerOrRefuse 13 = .ok (.iload_n 1, 1) := by decide +kernel
theorem dDK_answerOrRefuse_14 : decode cDK_answerOrRefuse 14 = .ok (.bipush 8, 2) := by decide +kernel
theorem dDK_answerOrRefuse_16 : decode cDK_answerOrRefuse 16 = .ok (.irem, 1) := by decide +kernel
theorem dDK_answerOrRefuse_17 : decode cDK_answerOrRefuse 17 = .ok (.istore 5, 2) := by decide +kernel
theorem dDK_answerOrRefuse_19 : decode cDK_answerOrRefuse 19 = .ok (.aload_n 0, 1) := by decide +kernel
theorem dDK_answerOrRefuse_20 : decode cDK_answerOrRefuse 20 = .ok (.getfield 12, 3) := by decide +kernel
theorem dDK_answerOrRefuse_23 : decode cDK_answerOrRefuse 23 = .ok (.iload 5, 2) := by decide +kernel
theorem dDK_answerOrRefuse_25 : decode cDK_answerOrRefuse 25 = .ok (.iload_n 2, 1) := by decide +kernel
theorem dDK_answerOrRefuse_26 : decode cDK_answerOrRefuse 26 = .ok (.invokevirtual 73, 3) := by decide +kernel
theorem dDK_answerOrRefuse_29 : decode cDK_answerOrRefuse 29 = .ok (.ifCond .ne 9, 3) := by decide +kernel
theorem dDK_answerOrRefuse_32 : decode cDK_answerOrRefuse 32 = .ok (.aload_n 0, 1) := by decide +kernel
theorem dDK_answerOrRefuse_33 : decode cDK_answerOrRefuse 33 = .ok (.iconst 2, 1) := by decide +kernel
theorem dDK_answerOrRefuse_34 : decode cDK_answerOrRefuse 34 = .ok (.invokevirtual 69, 3) := by decide +kernel
theorem dDK_answerOrRefuse_37 : decode cDK_answerOrRefuse 37 = .ok (.lreturn, 1) := by decide +kernel
theorem dDK_answerOrRefuse_38 : decode cDK_answerOrRefuse 38 = .ok (.aload_n 0, 1) := by decide +kernel
theorem dDK_answerOrRefuse_39 : decode cDK_answerOrRefuse 39 = .ok (.getfield 12, 3) := by decide +kernel
theorem dDK_answerOrRefuse_42 : decode cDK_answerOrRefuse 42 = .ok (.iload 5, 2) := by decide +kernel
theorem dDK_answerOrRefuse_44 : decode cDK_answerOrRefuse 44 = .ok (.iload_n 2, 1) := by decide +kernel
theorem dDK_answerOrRefuse_45 : decode cDK_answerOrRefuse 45 = .ok (.invokevirtual 77, 3) := by decide +kernel
theorem dDK_answerOrRefuse_48 : decode cDK_answerOrRefuse 48 = .ok (.ifCond .ne 9, 3) := by decide +kernel
theorem dDK_answerOrRefuse_51 : decode cDK_answerOrRefuse 51 = .ok (.aload_n 0, 1) := by decide +kernel
theorem dDK_answerOrRefuse_52 : decode cDK_answerOrRefuse 52 = .ok (.iconst 3, 1) := by decide +kernel
theorem dDK_answerOrRefuse_53 : decode cDK_answerOrRefuse 53 = .ok (.invokevirtual 69, 3) := by decide +kernel
theorem dDK_answerOrRefuse_56 : decode cDK_answerOrRefuse 56 = .ok (.lreturn, 1) := by decide +kernel
theorem dDK_answerOrRefuse_57 : decode cDK_answerOrRefuse 57 = .ok (.aload_n 0, 1) := by decide +kernel
theorem dDK_answerOrRefuse_58 : decode cDK_answerOrRefuse 58 = .ok (.iload_n 1, 1) := by decide +kernel
theorem dDK_answerOrRefuse_59 : decode cDK_answerOrRefuse 59 = .ok (.iload_n 2, 1) := by decide +kernel
theorem dDK_answerOrRefuse_60 : decode cDK_answerOrRefuse 60 = .ok (.lload_n 3, 1) := by decide +kernel
theorem dDK_answerOrRefuse_61 : decode cDK_answerOrRefuse 61 = .ok (.invokevirtual 80, 3) := by decide +kernel
theorem dDK_answerOrRefuse_64 : decode cDK_answerOrRefuse 64 = .ok (.lreturn, 1) := by decide +kernel
theorem dDK_refuse_0 : decode cDK_refuse 0 = .ok (.aload_n 0, 1) := by decide +kernel
theorem dDK_refuse_1 : decode cDK_refuse 1 = .ok (.getfield 28, 3) := by decide +kernel
theorem dDK_refuse_4 : decode cDK_refuse 4 = .ok (.iload_n 1, 1) := by decide +kernel
theorem dDK_refuse_5 : decode cDK_refuse 5 = .ok (.invokevirtual 83, 3) := by decide +kernel
theorem dDK_refuse_8 : decode cDK_refuse 8 = .ok (.iload_n 1, 1) := by decide +kernel
theorem dDK_refuse_9 : decode cDK_refuse 9 = .ok (.ineg, 1) := by decide +kernel
theorem dDK_refuse_10 : decode cDK_refuse 10 = .ok (.i2l, 1) := by decide +kernel
theorem dDK_refuse_11 : decode cDK_refuse 11 = .ok (.lreturn, 1) := by decide +kernel
theorem dTL_countRefused_0 : decode cTL_countRefused 0 = .ok (.aload_n 0, 1) := by decide +kernel
theorem dTL_countRefused_1 : decode cTL_countRefused 1 = .ok (.getfield 9, 3) := by decide +kernel
theorem dTL_countRefused_4 : decode cTL_countRefused 4 = .ok (.iload_n 1, 1) := by decide +kernel
theorem dTL_countRefused_5 : decode cTL_countRefused 5 = .ok (.dup2, 1) := by decide +kernel
theorem dTL_countRefused_6 : decode cTL_countRefused 6 = .ok (.laload, 1) := by decide +kernel
theorem dTL_countRefused_7 : decode cTL_countRefused 7 = .ok (.lconst 1, 1) := by decide +kernel
theorem dTL_countRefused_8 : decode cTL_countRefused 8 = .ok (.ladd, 1) := by decide +kernel
theorem dTL_countRefused_9 : decode cTL_countRefused 9 = .ok (.lastore, 1) := by decide +kernel
theorem dTL_countRefused_10 : decode cTL_countRefused 10 = .ok (.return_, 1) := by decide +kernel
theorem dDK_askPart_0 : decode cDK_askPart 0 = .ok (.aload_n 0, 1) := by decide +kernel
theorem dDK_askPart_1 : decode cDK_askPart 1 = .ok (.getfield 21, 3) := by decide +kernel
theorem dDK_askPart_4 : decode cDK_askPart 4 = .ok (.iload_n 1, 1) := by decide +kernel
theorem dDK_askPart_5 : decode cDK_askPart 5 = .ok (.invokevirtual 87, 3) := by decide +kernel
theorem dDK_askPart_8 : decode cDK_askPart 8 = .ok (.lstore 5, 2) := by decide +kernel
theorem dDK_askPart_10 : decode cDK_askPart 10 = .ok (.lconst 0, 1) := by decide +kernel
theorem dDK_askPart_11 : decode cDK_askPart 11 = .ok (.lstore 7, 2) := by decide +kernel
theorem dDK_askPart_13 : decode cDK_askPart 13 = .ok (.iconst 0, 1) := by decide +kernel
theorem dDK_askPart_14 : decode cDK_askPart 14 = .ok (.istore 9, 2) := by decide +kernel
theorem dDK_askPart_16 : decode cDK_askPart 16 = .ok (.aload_n 0, 1) := by decide +kernel
theorem dDK_askPart_17 : decode cDK_askPart 17 = .ok (.getfield 21, 3) := by decide +kernel
theorem dDK_askPart_20 : decode cDK_askPart 20 = .ok (.iload_n 1, 1) := by decide +kernel
theorem dDK_askPart_21 : decode cDK_askPart 21 = .ok (.iload_n 2, 1) := by decide +kernel
theorem dDK_askPart_22 : decode cDK_askPart 22 = .ok (.lload_n 3, 1) := by decide +kernel
theorem dDK_askPart_23 : decode cDK_askPart 23 = .ok (.invokevirtual 90, 3) := by decide +kernel
theorem dDK_askPart_26 : decode cDK_askPart 26 = .ok (.lstore 7, 2) := by decide +kernel
theorem dDK_askPart_28 : decode cDK_askPart 28 = .ok (.goto 40, 3) := by decide +kernel
theorem dDK_askPart_31 : decode cDK_askPart 31 = .ok (.astore 10, 2) := by decide +kernel
theorem dDK_askPart_33 : decode cDK_askPart 33 = .ok (.iconst 1, 1) := by decide +kernel
theorem dDK_askPart_34 : decode cDK_askPart 34 = .ok (.istore 9, 2) := by decide +kernel
theorem dDK_askPart_36 : decode cDK_askPart 36 = .ok (.goto 32, 3) := by decide +kernel
theorem dDK_askPart_39 : decode cDK_askPart 39 = .ok (.astore 10, 2) := by decide +kernel
theorem dDK_askPart_41 : decode cDK_askPart 41 = .ok (.iconst 2, 1) := by decide +kernel
theorem dDK_askPart_42 : decode cDK_askPart 42 = .ok (.istore 9, 2) := by decide +kernel
theorem dDK_askPart_44 : decode cDK_askPart 44 = .ok (.goto 24, 3) := by decide +kernel
theorem dDK_askPart_47 : decode cDK_askPart 47 = .ok (.astore 10, 2) := by decide +kernel
theorem dDK_askPart_49 : decode cDK_askPart 49 = .ok (.iconst 3, 1) := by decide +kernel
theorem dDK_askPart_50 : decode cDK_askPart 50 = .ok (.istore 9, 2) := by decide +kernel
theorem dDK_askPart_52 : decode cDK_askPart 52 = .ok (.goto 16, 3) := by decide +kernel
theorem dDK_askPart_55 : decode cDK_askPart 55 = .ok (.astore 10, 2) := by decide +kernel
theorem dDK_askPart_57 : decode cDK_askPart 57 = .ok (.iconst 4, 1) := by decide +kernel
theorem dDK_askPart_58 : decode cDK_askPart 58 = .ok (.istore 9, 2) := by decide +kernel
theorem dDK_askPart_60 : decode cDK_askPart 60 = .ok (.goto 8, 3) := by decide +kernel
theorem dDK_askPart_63 : decode cDK_askPart 63 = .ok (.astore 10, 2) := by decide +kernel
theorem dDK_askPart_65 : decode cDK_askPart 65 = .ok (.iconst 5, 1) := by decide +kernel
theorem dDK_askPart_66 : decode cDK_askPart 66 = .ok (.istore 9, 2) := by decide +kernel
theorem dDK_askPart_68 : decode cDK_askPart 68 = .ok (.iload 9, 2) := by decide +kernel
theorem dDK_askPart_70 : decode cDK_askPart 70 = .ok (.ifCond .eq 31, 3) := by decide +kernel
theorem dDK_askPart_73 : decode cDK_askPart 73 = .ok (.aload_n 0, 1) := by decide +kernel
theorem dDK_askPart_74 : decode cDK_askPart 74 = .ok (.getfield 21, 3) := by decide +kernel
theorem dDK_askPart_77 : decode cDK_askPart 77 = .ok (.iload_n 1, 1) := by decide +kernel
theorem dDK_askPart_78 : decode cDK_askPart 78 = .ok (.lload 5, 2) := by decide +kernel
theorem dDK_askPart_80 : decode cDK_askPart 80 = .ok (.invokevirtual 103, 3) := by decide +kernel
theorem dDK_askPart_83 : decode cDK_askPart 83 = .ok (.aload_n 0, 1) := by decide +kernel
theorem dDK_askPart_84 : decode cDK_askPart 84 = .ok (.getfield 28, 3) := by decide +kernel
theorem dDK_askPart_87 : decode cDK_askPart 87 = .ok (.iload 9, 2) := by decide +kernel
theorem dDK_askPart_89 : decode cDK_askPart 89 = .ok (.iload_n 1, 1) := by decide +kernel
theorem dDK_askPart_90 : decode cDK_askPart 90 = .ok (.iload_n 2, 1) := by decide +kernel
theorem dDK_askPart_91 : decode cDK_askPart 91 = .ok (.invokevirtual 107, 3) := by decide +kernel
theorem dDK_askPart_94 : decode cDK_askPart 94 = .ok (.bipush (-100), 2) := by decide +kernel
theorem dDK_askPart_96 : decode cDK_askPart 96 = .ok (.iload 9, 2) := by decide +kernel
theorem dDK_askPart_98 : decode cDK_askPart 98 = .ok (.isub, 1) := by decide +kernel
theorem dDK_askPart_99 : decode cDK_askPart 99 = .ok (.i2l, 1) := by decide +kernel
theorem dDK_askPart_100 : decode cDK_askPart 100 = .ok (.lreturn, 1) := by decide +kernel
theorem dDK_askPart_101 : decode cDK_askPart 101 = .ok (.aload_n 0, 1) := by decide +kernel
theorem dDK_askPart_102 : decode cDK_askPart 102 = .ok (.getfield 28, 3) := by decide +kernel
theorem dDK_askPart_105 : decode cDK_askPart 105 = .ok (.invokevirtual 111, 3) := by decide +kernel
theorem dDK_askPart_108 : decode cDK_askPart 108 = .ok (.lload 7, 2) := by decide +kernel
theorem dDK_askPart_110 : decode cDK_askPart 110 = .ok (.lreturn, 1) := by decide +kernel
theorem dPT_sumOf_0 : decode cPT_sumOf 0 = .ok (.aload_n 0, 1) := by decide +kernel
theorem dPT_sumOf_1 : decode cPT_sumOf 1 = .ok (.getfield 15, 3) := by decide +kernel
theorem dPT_sumOf_4 : decode cPT_sumOf 4 = .ok (.iload_n 1, 1) := by decide +kernel
theorem dPT_sumOf_5 : decode cPT_sumOf 5 = .ok (.laload, 1) := by decide +kernel
theorem dPT_sumOf_6 : decode cPT_sumOf 6 = .ok (.lreturn, 1) := by decide +kernel
theorem dPT_answerTo_0 : decode cPT_answerTo 0 = .ok (.aload_n 0, 1) := by decide +kernel
theorem dPT_answerTo_1 : decode cPT_answerTo 1 = .ok (.getfield 15, 3) := by decide +kernel
theorem dPT_answerTo_4 : decode cPT_answerTo 4 = .ok (.iload_n 1, 1) := by decide +kernel
theorem dPT_answerTo_5 : decode cPT_answerTo 5 = .ok (.dup2, 1) := by decide +kernel
theorem dPT_answerTo_6 : decode cPT_answerTo 6 = .ok (.laload, 1) := by decide +kernel
theorem dPT_answerTo_7 : decode cPT_answerTo 7 = .ok (.lload_n 3, 1) := by decide +kernel
theorem dPT_answerTo_8 : decode cPT_answerTo 8 = .ok (.ladd, 1) := by decide +kernel
theorem dPT_answerTo_9 : decode cPT_answerTo 9 = .ok (.lastore, 1) := by decide +kernel
theorem dPT_answerTo_10 : decode cPT_answerTo 10 = .ok (.aload_n 0, 1) := by decide +kernel
theorem dPT_answerTo_11 : decode cPT_answerTo 11 = .ok (.iload_n 1, 1) := by decide +kernel
theorem dPT_answerTo_12 : decode cPT_answerTo 12 = .ok (.invokevirtual 22, 3) := by decide +kernel
theorem dPT_answerTo_15 : decode cPT_answerTo 15 = .ok (.aload_n 0, 1) := by decide +kernel
theorem dPT_answerTo_16 : decode cPT_answerTo 16 = .ok (.getfield 9, 3) := by decide +kernel
theorem dPT_answerTo_19 : decode cPT_answerTo 19 = .ok (.iload_n 1, 1) := by decide +kernel
theorem dPT_answerTo_20 : decode cPT_answerTo 20 = .ok (.laload, 1) := by decide +kernel
theorem dPT_answerTo_21 : decode cPT_answerTo 21 = .ok (.ldc2_w 26, 3) := by decide +kernel
theorem dPT_answerTo_24 : decode cPT_answerTo 24 = .ok (.iload_n 2, 1) := by decide +kernel
theorem dPT_answerTo_25 : decode cPT_answerTo 25 = .ok (.i2l, 1) := by decide +kernel
theorem dPT_answerTo_26 : decode cPT_answerTo 26 = .ok (.lmul, 1) := by decide +kernel
theorem dPT_answerTo_27 : decode cPT_answerTo 27 = .ok (.ladd, 1) := by decide +kernel
theorem dPT_answerTo_28 : decode cPT_answerTo 28 = .ok (.aload_n 0, 1) := by decide +kernel
theorem dPT_answerTo_29 : decode cPT_answerTo 29 = .ok (.getfield 15, 3) := by decide +kernel
theorem dPT_answerTo_32 : decode cPT_answerTo 32 = .ok (.iload_n 1, 1) := by decide +kernel
theorem dPT_answerTo_33 : decode cPT_answerTo 33 = .ok (.laload, 1) := by decide +kernel
theorem dPT_answerTo_34 : decode cPT_answerTo 34 = .ok (.ladd, 1) := by decide +kernel
theorem dPT_answerTo_35 : decode cPT_answerTo 35 = .ok (.lreturn, 1) := by decide +kernel
theorem dPT_throwIfTold_0 : decode cPT_throwIfTold 0 = .ok (.aload_n 0, 1) := by decide +kernel
theorem dPT_throwIfTold_1 : decode cPT_throwIfTold 1 = .ok (.getfield 18, 3) := by decide +kernel
theorem dPT_throwIfTold_4 : decode cPT_throwIfTold 4 = .ok (.iload_n 1, 1) := by decide +kernel
theorem dPT_throwIfTold_5 : decode cPT_throwIfTold 5 = .ok (.iaload, 1) := by decide +kernel
theorem dPT_throwIfTold_6 : decode cPT_throwIfTold 6 = .ok (.istore_n 2, 1) := by decide +kernel
theorem dPT_throwIfTold_7 : decode cPT_throwIfTold 7 = .ok (.aload_n 0, 1) := by decide +kernel
theorem dPT_throwIfTold_8 : decode cPT_throwIfTold 8 = .ok (.getfield 18, 3) := by decide +kernel
theorem dPT_throwIfTold_11 : decode cPT_throwIfTold 11 = .ok (.iload_n 1, 1) := by decide +kernel
theorem dPT_throwIfTold_12 : decode cPT_throwIfTold 12 = .ok (.iconst 0, 1) := by decide +kernel
theorem dPT_throwIfTold_13 : decode cPT_throwIfTold 13 = .ok (.iastore, 1) := by decide +kernel
theorem dPT_throwIfTold_14 : decode cPT_throwIfTold 14 = .ok (.iload_n 2, 1) := by decide +kernel
theorem dPT_throwIfTold_15 : decode cPT_throwIfTold 15 = .ok (.tableswitch 83 1 5 #[33, 43, 53, 63, 73], 33) := by decide +kernel
theorem dPT_throwIfTold_48 : decode cPT_throwIfTold 48 = .ok (.new 28, 3) := by decide +kernel
theorem dPT_throwIfTold_51 : decode cPT_throwIfTold 51 = .ok (.dup, 1) := by decide +kernel
theorem dPT_throwIfTold_52 : decode cPT_throwIfTold 52 = .ok (.ldc 30, 2) := by decide +kernel
theorem dPT_throwIfTold_54 : decode cPT_throwIfTold 54 = .ok (.invokespecial 32, 3) := by decide +kernel
theorem dPT_throwIfTold_57 : decode cPT_throwIfTold 57 = .ok (.athrow, 1) := by decide +kernel
theorem dPT_throwIfTold_58 : decode cPT_throwIfTold 58 = .ok (.new 35, 3) := by decide +kernel
theorem dPT_throwIfTold_61 : decode cPT_throwIfTold 61 = .ok (.dup, 1) := by decide +kernel
theorem dPT_throwIfTold_62 : decode cPT_throwIfTold 62 = .ok (.ldc 37, 2) := by decide +kernel
theorem dPT_throwIfTold_64 : decode cPT_throwIfTold 64 = .ok (.invokespecial 39, 3) := by decide +kernel
theorem dPT_throwIfTold_67 : decode cPT_throwIfTold 67 = .ok (.athrow, 1) := by decide +kernel
theorem dPT_throwIfTold_68 : decode cPT_throwIfTold 68 = .ok (.new 40, 3) := by decide +kernel
theorem dPT_throwIfTold_71 : decode cPT_throwIfTold 71 = .ok (.dup, 1) := by decide +kernel
theorem dPT_throwIfTold_72 : decode cPT_throwIfTold 72 = .ok (.ldc 42, 2) := by decide +kernel
theorem dPT_throwIfTold_74 : decode cPT_throwIfTold 74 = .ok (.invokespecial 44, 3) := by decide +kernel
theorem dPT_throwIfTold_77 : decode cPT_throwIfTold 77 = .ok (.athrow, 1) := by decide +kernel
theorem dPT_throwIfTold_78 : decode cPT_throwIfTold 78 = .ok (.new 45, 3) := by decide +kernel
theorem dPT_throwIfTold_81 : decode cPT_throwIfTold 81 = .ok (.dup, 1) := by decide +kernel
theorem dPT_throwIfTold_82 : decode cPT_throwIfTold 82 = .ok (.ldc 47, 2) := by decide +kernel
theorem dPT_throwIfTold_84 : decode cPT_throwIfTold 84 = .ok (.invokespecial 49, 3) := by decide +kernel
theorem dPT_throwIfTold_87 : decode cPT_throwIfTold 87 = .ok (.athrow, 1) := by decide +kernel
theorem dPT_throwIfTold_88 : decode cPT_throwIfTold 88 = .ok (.new 50, 3) := by decide +kernel
theorem dPT_throwIfTold_91 : decode cPT_throwIfTold 91 = .ok (.dup, 1) := by decide +kernel
theorem dPT_throwIfTold_92 : decode cPT_throwIfTold 92 = .ok (.ldc 52, 2) := by decide +kernel
theorem dPT_throwIfTold_94 : decode cPT_throwIfTold 94 = .ok (.invokespecial 54, 3) := by decide +kernel
theorem dPT_throwIfTold_97 : decode cPT_throwIfTold 97 = .ok (.athrow, 1) := by decide +kernel
theorem dPT_throwIfTold_98 : decode cPT_throwIfTold 98 = .ok (.return_, 1) := by decide +kernel
theorem dPT_restoreSum_0 : decode cPT_restoreSum 0 = .ok (.aload_n 0, 1) := by decide +kernel
theorem dPT_restoreSum_1 : decode cPT_restoreSum 1 = .ok (.getfield 15, 3) := by decide +kernel
theorem dPT_restoreSum_4 : decode cPT_restoreSum 4 = .ok (.iload_n 1, 1) := by decide +kernel
theorem dPT_restoreSum_5 : decode cPT_restoreSum 5 = .ok (.lload_n 2, 1) := by decide +kernel
theorem dPT_restoreSum_6 : decode cPT_restoreSum 6 = .ok (.lastore, 1) := by decide +kernel
theorem dPT_restoreSum_7 : decode cPT_restoreSum 7 = .ok (.return_, 1) := by decide +kernel
theorem dTL_countFailure_0 : decode cTL_countFailure 0 = .ok (.aload_n 0, 1) := by decide +kernel
theorem dTL_countFailure_1 : decode cTL_countFailure 1 = .ok (.getfield 9, 3) := by decide +kernel
theorem dTL_countFailure_4 : decode cTL_countFailure 4 = .ok (.iconst 4, 1) := by decide +kernel
theorem dTL_countFailure_5 : decode cTL_countFailure 5 = .ok (.dup2, 1) := by decide +kernel
theorem dTL_countFailure_6 : decode cTL_countFailure 6 = .ok (.laload, 1) := by decide +kernel
theorem dTL_countFailure_7 : decode cTL_countFailure 7 = .ok (.lconst 1, 1) := by decide +kernel
theorem dTL_countFailure_8 : decode cTL_countFailure 8 = .ok (.ladd, 1) := by decide +kernel
theorem dTL_countFailure_9 : decode cTL_countFailure 9 = .ok (.lastore, 1) := by decide +kernel
theorem dTL_countFailure_10 : decode cTL_countFailure 10 = .ok (.aload_n 0, 1) := by decide +kernel
theorem dTL_countFailure_11 : decode cTL_countFailure 11 = .ok (.getfield 9, 3) := by decide +kernel
theorem dTL_countFailure_14 : decode cTL_countFailure 14 = .ok (.iconst 5, 1) := by decide +kernel
theorem dTL_countFailure_15 : decode cTL_countFailure 15 = .ok (.iload_n 1, 1) := by decide +kernel
theorem dTL_countFailure_16 : decode cTL_countFailure 16 = .ok (.i2l, 1) := by decide +kernel
theorem dTL_countFailure_17 : decode cTL_countFailure 17 = .ok (.lastore, 1) := by decide +kernel
theorem dTL_countFailure_18 : decode cTL_countFailure 18 = .ok (.aload_n 0, 1) := by decide +kernel
theorem dTL_countFailure_19 : decode cTL_countFailure 19 = .ok (.getfield 9, 3) := by decide +kernel
theorem dTL_countFailure_22 : decode cTL_countFailure 22 = .ok (.bipush 6, 2) := by decide +kernel
theorem dTL_countFailure_24 : decode cTL_countFailure 24 = .ok (.iload_n 2, 1) := by decide +kernel
theorem dTL_countFailure_25 : decode cTL_countFailure 25 = .ok (.i2l, 1) := by decide +kernel
theorem dTL_countFailure_26 : decode cTL_countFailure 26 = .ok (.lastore, 1) := by decide +kernel
theorem dTL_countFailure_27 : decode cTL_countFailure 27 = .ok (.aload_n 0, 1) := by decide +kernel
theorem dTL_countFailure_28 : decode cTL_countFailure 28 = .ok (.getfield 9, 3) := by decide +kernel
theorem dTL_countFailure_31 : decode cTL_countFailure 31 = .ok (.bipush 7, 2) := by decide +kernel
theorem dTL_countFailure_33 : decode cTL_countFailure 33 = .ok (.iload_n 3, 1) := by decide +kernel
theorem dTL_countFailure_34 : decode cTL_countFailure 34 = .ok (.i2l, 1) := by decide +kernel
theorem dTL_countFailure_35 : decode cTL_countFailure 35 = .ok (.lastore, 1) := by decide +kernel
theorem dTL_countFailure_36 : decode cTL_countFailure 36 = .ok (.return_, 1) := by decide +kernel
theorem dTL_countAnswered_0 : decode cTL_countAnswered 0 = .ok (.aload_n 0, 1) := by decide +kernel
theorem dTL_countAnswered_1 : decode cTL_countAnswered 1 = .ok (.getfield 9, 3) := by decide +kernel
theorem dTL_countAnswered_4 : decode cTL_countAnswered 4 = .ok (.iconst 0, 1) := by decide +kernel
theorem dTL_countAnswered_5 : decode cTL_countAnswered 5 = .ok (.dup2, 1) := by decide +kernel
theorem dTL_countAnswered_6 : decode cTL_countAnswered 6 = .ok (.laload, 1) := by decide +kernel
theorem dTL_countAnswered_7 : decode cTL_countAnswered 7 = .ok (.lconst 1, 1) := by decide +kernel
theorem dTL_countAnswered_8 : decode cTL_countAnswered 8 = .ok (.ladd, 1) := by decide +kernel
theorem dTL_countAnswered_9 : decode cTL_countAnswered 9 = .ok (.lastore, 1) := by decide +kernel
theorem dTL_countAnswered_10 : decode cTL_countAnswered 10 = .ok (.return_, 1) := by decide +kernel
theorem dJN_write_0 : decode cJN_write 0 = .ok (.aload_n 0, 1) := by decide +kernel
theorem dJN_write_1 : decode cJN_write 1 = .ok (.getfield 9, 3) := by decide +kernel
theorem dJN_write_4 : decode cJN_write 4 = .ok (.aload_n 0, 1) := by decide +kernel
theorem dJN_write_5 : decode cJN_write 5 = .ok (.getfield 17, 3) := by decide +kernel
theorem dJN_write_8 : decode cJN_write 8 = .ok (.lload_n 1, 1) := by decide +kernel
theorem dJN_write_9 : decode cJN_write 9 = .ok (.lastore, 1) := by decide +kernel
theorem dJN_write_10 : decode cJN_write 10 = .ok (.aload_n 0, 1) := by decide +kernel
theorem dJN_write_11 : decode cJN_write 11 = .ok (.aload_n 0, 1) := by decide +kernel
theorem dJN_write_12 : decode cJN_write 12 = .ok (.getfield 17, 3) := by decide +kernel
theorem dJN_write_15 : decode cJN_write 15 = .ok (.iconst 1, 1) := by decide +kernel
theorem dJN_write_16 : decode cJN_write 16 = .ok (.iadd, 1) := by decide +kernel
theorem dJN_write_17 : decode cJN_write 17 = .ok (.bipush 64, 2) := by decide +kernel
theorem dJN_write_19 : decode cJN_write 19 = .ok (.irem, 1) := by decide +kernel
theorem dJN_write_20 : decode cJN_write 20 = .ok (.putfield 17, 3) := by decide +kernel
theorem dJN_write_23 : decode cJN_write 23 = .ok (.aload_n 0, 1) := by decide +kernel
theorem dJN_write_24 : decode cJN_write 24 = .ok (.getfield 13, 3) := by decide +kernel
theorem dJN_write_27 : decode cJN_write 27 = .ok (.bipush 64, 2) := by decide +kernel
theorem dJN_write_29 : decode cJN_write 29 = .ok (.if_icmp .ge 13, 3) := by decide +kernel
theorem dJN_write_32 : decode cJN_write 32 = .ok (.aload_n 0, 1) := by decide +kernel
theorem dJN_write_33 : decode cJN_write 33 = .ok (.dup, 1) := by decide +kernel
theorem dJN_write_34 : decode cJN_write 34 = .ok (.getfield 13, 3) := by decide +kernel
theorem dJN_write_37 : decode cJN_write 37 = .ok (.iconst 1, 1) := by decide +kernel
theorem dJN_write_38 : decode cJN_write 38 = .ok (.iadd, 1) := by decide +kernel
theorem dJN_write_39 : decode cJN_write 39 = .ok (.putfield 13, 3) := by decide +kernel
theorem dJN_write_42 : decode cJN_write 42 = .ok (.return_, 1) := by decide +kernel
theorem dPD_again_0 : decode cPD_again 0 = .ok (.aload_n 0, 1) := by decide +kernel
theorem dPD_again_1 : decode cPD_again 1 = .ok (.getfield 16, 3) := by decide +kernel
theorem dPD_again_4 : decode cPD_again 4 = .ok (.iload_n 1, 1) := by decide +kernel
theorem dPD_again_5 : decode cPD_again 5 = .ok (.iload_n 2, 1) := by decide +kernel
theorem dPD_again_6 : decode cPD_again 6 = .ok (.lload_n 3, 1) := by decide +kernel
theorem dPD_again_7 : decode cPD_again 7 = .ok (.invokevirtual 87, 3) := by decide +kernel
theorem dPD_again_10 : decode cPD_again 10 = .ok (.lreturn, 1) := by decide +kernel
theorem dPD_numbers_0 : decode cPD_numbers 0 = .ok (.iload_n 1, 1) := by decide +kernel
theorem dPD_numbers_1 : decode cPD_numbers 1 = .ok (.invokestatic 54, 3) := by decide +kernel
theorem dPD_numbers_4 : decode cPD_numbers 4 = .ok (.ifCond .eq 17, 3) := by decide +kernel
theorem dPD_numbers_7 : decode cPD_numbers 7 = .ok (.aload_n 0, 1) := by decide +kernel
theorem dPD_numbers_8 : decode cPD_numbers 8 = .ok (.getfield 10, 3) := by decide +kernel
theorem dPD_numbers_11 : decode cPD_numbers 11 = .ok (.getfield 64, 3) := by decide +kernel
theorem dPD_numbers_14 : decode cPD_numbers 14 = .ok (.iload_n 1, 1) := by decide +kernel
theorem dPD_numbers_15 : decode cPD_numbers 15 = .ok (.invokevirtual 106, 3) := by decide +kernel
theorem dPD_numbers_18 : decode cPD_numbers 18 = .ok (.goto 4, 3) := by decide +kernel
theorem dPD_numbers_21 : decode cPD_numbers 21 = .ok (.iconst (-1), 1) := by decide +kernel
theorem dPD_numbers_22 : decode cPD_numbers 22 = .ok (.ireturn, 1) := by decide +kernel
theorem dNU_countKnown_0 : decode cNU_countKnown 0 = .ok (.aload_n 0, 1) := by decide +kernel
theorem dNU_countKnown_1 : decode cNU_countKnown 1 = .ok (.getfield 15, 3) := by decide +kernel
theorem dNU_countKnown_4 : decode cNU_countKnown 4 = .ok (.iload_n 1, 1) := by decide +kernel
theorem dNU_countKnown_5 : decode cNU_countKnown 5 = .ok (.laload, 1) := by decide +kernel
theorem dNU_countKnown_6 : decode cNU_countKnown 6 = .ok (.invokestatic 29, 3) := by decide +kernel
theorem dNU_countKnown_9 : decode cNU_countKnown 9 = .ok (.ireturn, 1) := by decide +kernel
theorem dLG_bitCount_0 : decode cLG_bitCount 0 = .ok (.lload_n 0, 1) := by decide +kernel
theorem dLG_bitCount_1 : decode cLG_bitCount 1 = .ok (.lload_n 0, 1) := by decide +kernel
theorem dLG_bitCount_2 : decode cLG_bitCount 2 = .ok (.iconst 1, 1) := by decide +kernel
theorem dLG_bitCount_3 : decode cLG_bitCount 3 = .ok (.lushr, 1) := by decide +kernel
theorem dLG_bitCount_4 : decode cLG_bitCount 4 = .ok (.ldc2_w 314, 3) := by decide +kernel
theorem dLG_bitCount_7 : decode cLG_bitCount 7 = .ok (.land, 1) := by decide +kernel
theorem dLG_bitCount_8 : decode cLG_bitCount 8 = .ok (.lsub, 1) := by decide +kernel
theorem dLG_bitCount_9 : decode cLG_bitCount 9 = .ok (.lstore_n 0, 1) := by decide +kernel
theorem dLG_bitCount_10 : decode cLG_bitCount 10 = .ok (.lload_n 0, 1) := by decide +kernel
theorem dLG_bitCount_11 : decode cLG_bitCount 11 = .ok (.ldc2_w 316, 3) := by decide +kernel
theorem dLG_bitCount_14 : decode cLG_bitCount 14 = .ok (.land, 1) := by decide +kernel
theorem dLG_bitCount_15 : decode cLG_bitCount 15 = .ok (.lload_n 0, 1) := by decide +kernel
theorem dLG_bitCount_16 : decode cLG_bitCount 16 = .ok (.iconst 2, 1) := by decide +kernel
theorem dLG_bitCount_17 : decode cLG_bitCount 17 = .ok (.lushr, 1) := by decide +kernel
theorem dLG_bitCount_18 : decode cLG_bitCount 18 = .ok (.ldc2_w 316, 3) := by decide +kernel
theorem dLG_bitCount_21 : decode cLG_bitCount 21 = .ok (.land, 1) := by decide +kernel
theorem dLG_bitCount_22 : decode cLG_bitCount 22 = .ok (.ladd, 1) := by decide +kernel
theorem dLG_bitCount_23 : decode cLG_bitCount 23 = .ok (.lstore_n 0, 1) := by decide +kernel
theorem dLG_bitCount_24 : decode cLG_bitCount 24 = .ok (.lload_n 0, 1) := by decide +kernel
theorem dLG_bitCount_25 : decode cLG_bitCount 25 = .ok (.lload_n 0, 1) := by decide +kernel
theorem dLG_bitCount_26 : decode cLG_bitCount 26 = .ok (.iconst 4, 1) := by decide +kernel
theorem dLG_bitCount_27 : decode cLG_bitCount 27 = .ok (.lushr, 1) := by decide +kernel
theorem dLG_bitCount_28 : decode cLG_bitCount 28 = .ok (.ladd, 1) := by decide +kernel
theorem dLG_bitCount_29 : decode cLG_bitCount 29 = .ok (.ldc2_w 318, 3) := by decide +kernel
theorem dLG_bitCount_32 : decode cLG_bitCount 32 = .ok (.land, 1) := by decide +kernel
theorem dLG_bitCount_33 : decode cLG_bitCount 33 = .ok (.lstore_n 0, 1) := by decide +kernel
theorem dLG_bitCount_34 : decode cLG_bitCount 34 = .ok (.lload_n 0, 1) := by decide +kernel
theorem dLG_bitCount_35 : decode cLG_bitCount 35 = .ok (.lload_n 0, 1) := by decide +kernel
theorem dLG_bitCount_36 : decode cLG_bitCount 36 = .ok (.bipush 8, 2) := by decide +kernel
theorem dLG_bitCount_38 : decode cLG_bitCount 38 = .ok (.lushr, 1) := by decide +kernel
theorem dLG_bitCount_39 : decode cLG_bitCount 39 = .ok (.ladd, 1) := by decide +kernel
theorem dLG_bitCount_40 : decode cLG_bitCount 40 = .ok (.lstore_n 0, 1) := by decide +kernel
theorem dLG_bitCount_41 : decode cLG_bitCount 41 = .ok (.lload_n 0, 1) := by decide +kernel
theorem dLG_bitCount_42 : decode cLG_bitCount 42 = .ok (.lload_n 0, 1) := by decide +kernel
theorem dLG_bitCount_43 : decode cLG_bitCount 43 = .ok (.bipush 16, 2) := by decide +kernel
theorem dLG_bitCount_45 : decode cLG_bitCount 45 = .ok (.lushr, 1) := by decide +kernel
theorem dLG_bitCount_46 : decode cLG_bitCount 46 = .ok (.ladd, 1) := by decide +kernel
theorem dLG_bitCount_47 : decode cLG_bitCount 47 = .ok (.lstore_n 0, 1) := by decide +kernel
theorem dLG_bitCount_48 : decode cLG_bitCount 48 = .ok (.lload_n 0, 1) := by decide +kernel
theorem dLG_bitCount_49 : decode cLG_bitCount 49 = .ok (.lload_n 0, 1) := by decide +kernel
theorem dLG_bitCount_50 : decode cLG_bitCount 50 = .ok (.bipush 32, 2) := by decide +kernel
theorem dLG_bitCount_52 : decode cLG_bitCount 52 = .ok (.lushr, 1) := by decide +kernel
theorem dLG_bitCount_53 : decode cLG_bitCount 53 = .ok (.ladd, 1) := by decide +kernel
theorem dLG_bitCount_54 : decode cLG_bitCount 54 = .ok (.lstore_n 0, 1) := by decide +kernel
theorem dLG_bitCount_55 : decode cLG_bitCount 55 = .ok (.lload_n 0, 1) := by decide +kernel
theorem dLG_bitCount_56 : decode cLG_bitCount 56 = .ok (.l2i, 1) := by decide +kernel
theorem dLG_bitCount_57 : decode cLG_bitCount 57 = .ok (.bipush 127, 2) := by decide +kernel
theorem dLG_bitCount_59 : decode cLG_bitCount 59 = .ok (.iand, 1) := by decide +kernel
theorem dLG_bitCount_60 : decode cLG_bitCount 60 = .ok (.ireturn, 1) := by decide +kernel
theorem dPD_same_0 : decode cPD_same 0 = .ok (.aload_n 0, 1) := by decide +kernel
theorem dPD_same_1 : decode cPD_same 1 = .ok (.getfield 10, 3) := by decide +kernel
theorem dPD_same_4 : decode cPD_same 4 = .ok (.aload_n 0, 1) := by decide +kernel
theorem dPD_same_5 : decode cPD_same 5 = .ok (.getfield 16, 3) := by decide +kernel
theorem dPD_same_8 : decode cPD_same 8 = .ok (.invokevirtual 148, 3) := by decide +kernel
theorem dPD_same_11 : decode cPD_same 11 = .ok (.ireturn, 1) := by decide +kernel
theorem dDK_isLike_0 : decode cDK_isLike 0 = .ok (.aload_n 0, 1) := by decide +kernel
theorem dDK_isLike_1 : decode cDK_isLike 1 = .ok (.getfield 12, 3) := by decide +kernel
theorem dDK_isLike_4 : decode cDK_isLike 4 = .ok (.aload_n 1, 1) := by decide +kernel
theorem dDK_isLike_5 : decode cDK_isLike 5 = .ok (.getfield 12, 3) := by decide +kernel
theorem dDK_isLike_8 : decode cDK_isLike 8 = .ok (.invokevirtual 114, 3) := by decide +kernel
theorem dDK_isLike_11 : decode cDK_isLike 11 = .ok (.ifCond .eq 63, 3) := by decide +kernel
theorem dDK_isLike_14 : decode cDK_isLike 14 = .ok (.aload_n 0, 1) := by decide +kernel
theorem dDK_isLike_15 : decode cDK_isLike 15 = .ok (.getfield 21, 3) := by decide +kernel
theorem dDK_isLike_18 : decode cDK_isLike 18 = .ok (.aload_n 1, 1) := by decide +kernel
theorem dDK_isLike_19 : decode cDK_isLike 19 = .ok (.getfield 21, 3) := by decide +kernel
theorem dDK_isLike_22 : decode cDK_isLike 22 = .ok (.invokevirtual 118, 3) := by decide +kernel
theorem dDK_isLike_25 : decode cDK_isLike 25 = .ok (.ifCond .eq 49, 3) := by decide +kernel
theorem dDK_isLike_28 : decode cDK_isLike 28 = .ok (.aload_n 0, 1) := by decide +kernel
theorem dDK_isLike_29 : decode cDK_isLike 29 = .ok (.getfield 42, 3) := by decide +kernel
theorem dDK_isLike_32 : decode cDK_isLike 32 = .ok (.aload_n 1, 1) := by decide +kernel
theorem dDK_isLike_33 : decode cDK_isLike 33 = .ok (.getfield 42, 3) := by decide +kernel
theorem dDK_isLike_36 : decode cDK_isLike 36 = .ok (.invokevirtual 122, 3) := by decide +kernel
theorem dDK_isLike_39 : decode cDK_isLike 39 = .ok (.ifCond .eq 35, 3) := by decide +kernel
theorem dDK_isLike_42 : decode cDK_isLike 42 = .ok (.aload_n 0, 1) := by decide +kernel
theorem dDK_isLike_43 : decode cDK_isLike 43 = .ok (.getfield 28, 3) := by decide +kernel
theorem dDK_isLike_46 : decode cDK_isLike 46 = .ok (.aload_n 1, 1) := by decide +kernel
theorem dDK_isLike_47 : decode cDK_isLike 47 = .ok (.getfield 28, 3) := by decide +kernel
theorem dDK_isLike_50 : decode cDK_isLike 50 = .ok (.invokevirtual 125, 3) := by decide +kernel
theorem dDK_isLike_53 : decode cDK_isLike 53 = .ok (.ifCond .eq 21, 3) := by decide +kernel
theorem dDK_isLike_56 : decode cDK_isLike 56 = .ok (.aload_n 0, 1) := by decide +kernel
theorem dDK_isLike_57 : decode cDK_isLike 57 = .ok (.getfield 35, 3) := by decide +kernel
theorem dDK_isLike_60 : decode cDK_isLike 60 = .ok (.aload_n 1, 1) := by decide +kernel
theorem dDK_isLike_61 : decode cDK_isLike 61 = .ok (.getfield 35, 3) := by decide +kernel
theorem dDK_isLike_64 : decode cDK_isLike 64 = .ok (.invokevirtual 128, 3) := by decide +kernel
theorem dDK_isLike_67 : decode cDK_isLike 67 = .ok (.ifCond .eq 7, 3) := by decide +kernel
theorem dDK_isLike_70 : decode cDK_isLike 70 = .ok (.iconst 1, 1) := by decide +kernel
theorem dDK_isLike_71 : decode cDK_isLike 71 = .ok (.goto 4, 3) := by decide +kernel
theorem dDK_isLike_74 : decode cDK_isLike 74 = .ok (.iconst 0, 1) := by decide +kernel
theorem dDK_isLike_75 : decode cDK_isLike 75 = .ok (.ireturn, 1) := by decide +kernel
theorem dNU_isLike_0 : decode cNU_isLike 0 = .ok (.iconst 0, 1) := by decide +kernel
theorem dNU_isLike_1 : decode cNU_isLike 1 = .ok (.istore_n 2, 1) := by decide +kernel
theorem dNU_isLike_2 : decode cNU_isLike 2 = .ok (.iload_n 2, 1) := by decide +kernel
theorem dNU_isLike_3 : decode cNU_isLike 3 = .ok (.bipush 8, 2) := by decide +kernel
theorem dNU_isLike_5 : decode cNU_isLike 5 = .ok (.if_icmp .ge 42, 3) := by decide +kernel
theorem dNU_isLike_8 : decode cNU_isLike 8 = .ok (.aload_n 0, 1) := by decide +kernel
theorem dNU_isLike_9 : decode cNU_isLike 9 = .ok (.getfield 9, 3) := by decide +kernel
theorem dNU_isLike_12 : decode cNU_isLike 12 = .ok (.iload_n 2, 1) := by decide +kernel
theorem dNU_isLike_13 : decode cNU_isLike 13 = .ok (.iaload, 1) := by decide +kernel
theorem dNU_isLike_14 : decode cNU_isLike 14 = .ok (.aload_n 1, 1) := by decide +kernel
theorem dNU_isLike_15 : decode cNU_isLike 15 = .ok (.getfield 9, 3) := by decide +kernel
theorem dNU_isLike_18 : decode cNU_isLike 18 = .ok (.iload_n 2, 1) := by decide +kernel
theorem dNU_isLike_19 : decode cNU_isLike 19 = .ok (.iaload, 1) := by decide +kernel
theorem dNU_isLike_20 : decode cNU_isLike 20 = .ok (.if_icmp .ne 19, 3) := by decide +kernel
theorem dNU_isLike_23 : decode cNU_isLike 23 = .ok (.aload_n 0, 1) := by decide +kernel
theorem dNU_isLike_24 : decode cNU_isLike 24 = .ok (.getfield 15, 3) := by decide +kernel
theorem dNU_isLike_27 : decode cNU_isLike 27 = .ok (.iload_n 2, 1) := by decide +kernel
theorem dNU_isLike_28 : decode cNU_isLike 28 = .ok (.laload, 1) := by decide +kernel
theorem dNU_isLike_29 : decode cNU_isLike 29 = .ok (.aload_n 1, 1) := by decide +kernel
theorem dNU_isLike_30 : decode cNU_isLike 30 = .ok (.getfield 15, 3) := by decide +kernel
theorem dNU_isLike_33 : decode cNU_isLike 33 = .ok (.iload_n 2, 1) := by decide +kernel
theorem dNU_isLike_34 : decode cNU_isLike 34 = .ok (.laload, 1) := by decide +kernel
theorem dNU_isLike_35 : decode cNU_isLike 35 = .ok (.lcmp, 1) := by decide +kernel
theorem dNU_isLike_36 : decode cNU_isLike 36 = .ok (.ifCond .eq 5, 3) := by decide +kernel
theorem dNU_isLike_39 : decode cNU_isLike 39 = .ok (.iconst 0, 1) := by decide +kernel
theorem dNU_isLike_40 : decode cNU_isLike 40 = .ok (.ireturn, 1) := by decide +kernel
theorem dNU_isLike_41 : decode cNU_isLike 41 = .ok (.iinc 2 1, 3) := by decide +kernel
theorem dNU_isLike_44 : decode cNU_isLike 44 = .ok (.goto (-42), 3) := by decide +kernel
theorem dNU_isLike_47 : decode cNU_isLike 47 = .ok (.iconst 1, 1) := by decide +kernel
theorem dNU_isLike_48 : decode cNU_isLike 48 = .ok (.ireturn, 1) := by decide +kernel
theorem dPT_hasSumsOf_0 : decode cPT_hasSumsOf 0 = .ok (.iconst 0, 1) := by decide +kernel
theorem dPT_hasSumsOf_1 : decode cPT_hasSumsOf 1 = .ok (.istore_n 2, 1) := by decide +kernel
theorem dPT_hasSumsOf_2 : decode cPT_hasSumsOf 2 = .ok (.iload_n 2, 1) := by decide +kernel
theorem dPT_hasSumsOf_3 : decode cPT_hasSumsOf 3 = .ok (.bipush 12, 2) := by decide +kernel
theorem dPT_hasSumsOf_5 : decode cPT_hasSumsOf 5 = .ok (.if_icmp .ge 27, 3) := by decide +kernel
theorem dPT_hasSumsOf_8 : decode cPT_hasSumsOf 8 = .ok (.aload_n 0, 1) := by decide +kernel
theorem dPT_hasSumsOf_9 : decode cPT_hasSumsOf 9 = .ok (.getfield 15, 3) := by decide +kernel
theorem dPT_hasSumsOf_12 : decode cPT_hasSumsOf 12 = .ok (.iload_n 2, 1) := by decide +kernel
theorem dPT_hasSumsOf_13 : decode cPT_hasSumsOf 13 = .ok (.laload, 1) := by decide +kernel
theorem dPT_hasSumsOf_14 : decode cPT_hasSumsOf 14 = .ok (.aload_n 1, 1) := by decide +kernel
theorem dPT_hasSumsOf_15 : decode cPT_hasSumsOf 15 = .ok (.getfield 15, 3) := by decide +kernel
theorem dPT_hasSumsOf_18 : decode cPT_hasSumsOf 18 = .ok (.iload_n 2, 1) := by decide +kernel
theorem dPT_hasSumsOf_19 : decode cPT_hasSumsOf 19 = .ok (.laload, 1) := by decide +kernel
theorem dPT_hasSumsOf_20 : decode cPT_hasSumsOf 20 = .ok (.lcmp, 1) := by decide +kernel
theorem dPT_hasSumsOf_21 : decode cPT_hasSumsOf 21 = .ok (.ifCond .eq 5, 3) := by decide +kernel
theorem dPT_hasSumsOf_24 : decode cPT_hasSumsOf 24 = .ok (.iconst 0, 1) := by decide +kernel
theorem dPT_hasSumsOf_25 : decode cPT_hasSumsOf 25 = .ok (.ireturn, 1) := by decide +kernel
theorem dPT_hasSumsOf_26 : decode cPT_hasSumsOf 26 = .ok (.iinc 2 1, 3) := by decide +kernel
theorem dPT_hasSumsOf_29 : decode cPT_hasSumsOf 29 = .ok (.goto (-27), 3) := by decide +kernel
theorem dPT_hasSumsOf_32 : decode cPT_hasSumsOf 32 = .ok (.iconst 1, 1) := by decide +kernel
theorem dPT_hasSumsOf_33 : decode cPT_hasSumsOf 33 = .ok (.ireturn, 1) := by decide +kernel
theorem dJN_isLike_0 : decode cJN_isLike 0 = .ok (.aload_n 0, 1) := by decide +kernel
theorem dJN_isLike_1 : decode cJN_isLike 1 = .ok (.getfield 13, 3) := by decide +kernel
theorem dJN_isLike_4 : decode cJN_isLike 4 = .ok (.aload_n 1, 1) := by decide +kernel
theorem dJN_isLike_5 : decode cJN_isLike 5 = .ok (.getfield 13, 3) := by decide +kernel
theorem dJN_isLike_8 : decode cJN_isLike 8 = .ok (.if_icmp .eq 5, 3) := by decide +kernel
theorem dJN_isLike_11 : decode cJN_isLike 11 = .ok (.iconst 0, 1) := by decide +kernel
theorem dJN_isLike_12 : decode cJN_isLike 12 = .ok (.ireturn, 1) := by decide +kernel
theorem dJN_isLike_13 : decode cJN_isLike 13 = .ok (.iconst 0, 1) := by decide +kernel
theorem dJN_isLike_14 : decode cJN_isLike 14 = .ok (.istore_n 2, 1) := by decide +kernel
theorem dJN_isLike_15 : decode cJN_isLike 15 = .ok (.iload_n 2, 1) := by decide +kernel
theorem dJN_isLike_16 : decode cJN_isLike 16 = .ok (.aload_n 0, 1) := by decide +kernel
theorem dJN_isLike_17 : decode cJN_isLike 17 = .ok (.getfield 13, 3) := by decide +kernel
theorem dJN_isLike_20 : decode cJN_isLike 20 = .ok (.if_icmp .ge 25, 3) := by decide +kernel
theorem dJN_isLike_23 : decode cJN_isLike 23 = .ok (.aload_n 0, 1) := by decide +kernel
theorem dJN_isLike_24 : decode cJN_isLike 24 = .ok (.iload_n 2, 1) := by decide +kernel
theorem dJN_isLike_25 : decode cJN_isLike 25 = .ok (.invokevirtual 20, 3) := by decide +kernel
theorem dJN_isLike_28 : decode cJN_isLike 28 = .ok (.aload_n 1, 1) := by decide +kernel
theorem dJN_isLike_29 : decode cJN_isLike 29 = .ok (.iload_n 2, 1) := by decide +kernel
theorem dJN_isLike_30 : decode cJN_isLike 30 = .ok (.invokevirtual 20, 3) := by decide +kernel
theorem dJN_isLike_33 : decode cJN_isLike 33 = .ok (.lcmp, 1) := by decide +kernel
theorem dJN_isLike_34 : decode cJN_isLike 34 = .ok (.ifCond .eq 5, 3) := by decide +kernel
theorem dJN_isLike_37 : decode cJN_isLike 37 = .ok (.iconst 0, 1) := by decide +kernel
theorem dJN_isLike_38 : decode cJN_isLike 38 = .ok (.ireturn, 1) := by decide +kernel
theorem dJN_isLike_39 : decode cJN_isLike 39 = .ok (.iinc 2 1, 3) := by decide +kernel
theorem dJN_isLike_42 : decode cJN_isLike 42 = .ok (.goto (-27), 3) := by decide +kernel
theorem dJN_isLike_45 : decode cJN_isLike 45 = .ok (.iconst 1, 1) := by decide +kernel
theorem dJN_isLike_46 : decode cJN_isLike 46 = .ok (.ireturn, 1) := by decide +kernel
theorem dJN_entryAt_0 : decode cJN_entryAt 0 = .ok (.aload_n 0, 1) := by decide +kernel
theorem dJN_entryAt_1 : decode cJN_entryAt 1 = .ok (.getfield 9, 3) := by decide +kernel
theorem dJN_entryAt_4 : decode cJN_entryAt 4 = .ok (.aload_n 0, 1) := by decide +kernel
theorem dJN_entryAt_5 : decode cJN_entryAt 5 = .ok (.getfield 17, 3) := by decide +kernel
theorem dJN_entryAt_8 : decode cJN_entryAt 8 = .ok (.bipush 64, 2) := by decide +kernel
theorem dJN_entryAt_10 : decode cJN_entryAt 10 = .ok (.iadd, 1) := by decide +kernel
theorem dJN_entryAt_11 : decode cJN_entryAt 11 = .ok (.aload_n 0, 1) := by decide +kernel
theorem dJN_entryAt_12 : decode cJN_entryAt 12 = .ok (.getfield 13, 3) := by decide +kernel
theorem dJN_entryAt_15 : decode cJN_entryAt 15 = .ok (.isub, 1) := by decide +kernel
theorem dJN_entryAt_16 : decode cJN_entryAt 16 = .ok (.iload_n 1, 1) := by decide +kernel
theorem dJN_entryAt_17 : decode cJN_entryAt 17 = .ok (.iadd, 1) := by decide +kernel
theorem dJN_entryAt_18 : decode cJN_entryAt 18 = .ok (.bipush 64, 2) := by decide +kernel
theorem dJN_entryAt_20 : decode cJN_entryAt 20 = .ok (.irem, 1) := by decide +kernel
theorem dJN_entryAt_21 : decode cJN_entryAt 21 = .ok (.laload, 1) := by decide +kernel
theorem dJN_entryAt_22 : decode cJN_entryAt 22 = .ok (.lreturn, 1) := by decide +kernel
theorem dTL_isLike_0 : decode cTL_isLike 0 = .ok (.iconst 0, 1) := by decide +kernel
theorem dTL_isLike_1 : decode cTL_isLike 1 = .ok (.istore_n 2, 1) := by decide +kernel
theorem dTL_isLike_2 : decode cTL_isLike 2 = .ok (.iload_n 2, 1) := by decide +kernel
theorem dTL_isLike_3 : decode cTL_isLike 3 = .ok (.bipush 8, 2) := by decide +kernel
theorem dTL_isLike_5 : decode cTL_isLike 5 = .ok (.if_icmp .ge 27, 3) := by decide +kernel
theorem dTL_isLike_8 : decode cTL_isLike 8 = .ok (.aload_n 0, 1) := by decide +kernel
theorem dTL_isLike_9 : decode cTL_isLike 9 = .ok (.getfield 9, 3) := by decide +kernel
theorem dTL_isLike_12 : decode cTL_isLike 12 = .ok (.iload_n 2, 1) := by decide +kernel
theorem dTL_isLike_13 : decode cTL_isLike 13 = .ok (.laload, 1) := by decide +kernel
theorem dTL_isLike_14 : decode cTL_isLike 14 = .ok (.aload_n 1, 1) := by decide +kernel
theorem dTL_isLike_15 : decode cTL_isLike 15 = .ok (.getfield 9, 3) := by decide +kernel
theorem dTL_isLike_18 : decode cTL_isLike 18 = .ok (.iload_n 2, 1) := by decide +kernel
theorem dTL_isLike_19 : decode cTL_isLike 19 = .ok (.laload, 1) := by decide +kernel
theorem dTL_isLike_20 : decode cTL_isLike 20 = .ok (.lcmp, 1) := by decide +kernel
theorem dTL_isLike_21 : decode cTL_isLike 21 = .ok (.ifCond .eq 5, 3) := by decide +kernel
theorem dTL_isLike_24 : decode cTL_isLike 24 = .ok (.iconst 0, 1) := by decide +kernel
theorem dTL_isLike_25 : decode cTL_isLike 25 = .ok (.ireturn, 1) := by decide +kernel
theorem dTL_isLike_26 : decode cTL_isLike 26 = .ok (.iinc 2 1, 3) := by decide +kernel
theorem dTL_isLike_29 : decode cTL_isLike 29 = .ok (.goto (-27), 3) := by decide +kernel
theorem dTL_isLike_32 : decode cTL_isLike 32 = .ok (.iconst 1, 1) := by decide +kernel
theorem dTL_isLike_33 : decode cTL_isLike 33 = .ok (.ireturn, 1) := by decide +kernel
theorem dCV_isLike_0 : decode cCV_isLike 0 = .ok (.iconst 0, 1) := by decide +kernel
theorem dCV_isLike_1 : decode cCV_isLike 1 = .ok (.istore_n 2, 1) := by decide +kernel
theorem dCV_isLike_2 : decode cCV_isLike 2 = .ok (.iload_n 2, 1) := by decide +kernel
theorem dCV_isLike_3 : decode cCV_isLike 3 = .ok (.iconst 4, 1) := by decide +kernel
theorem dCV_isLike_4 : decode cCV_isLike 4 = .ok (.if_icmp .ge 66, 3) := by decide +kernel
theorem dCV_isLike_7 : decode cCV_isLike 7 = .ok (.aload_n 0, 1) := by decide +kernel
theorem dCV_isLike_8 : decode cCV_isLike 8 = .ok (.getfield 9, 3) := by decide +kernel
theorem dCV_isLike_11 : decode cCV_isLike 11 = .ok (.iload_n 2, 1) := by decide +kernel
theorem dCV_isLike_12 : decode cCV_isLike 12 = .ok (.iaload, 1) := by decide +kernel
theorem dCV_isLike_13 : decode cCV_isLike 13 = .ok (.aload_n 1, 1) := by decide +kernel
theorem dCV_isLike_14 : decode cCV_isLike 14 = .ok (.getfield 9, 3) := by decide +kernel
theorem dCV_isLike_17 : decode cCV_isLike 17 = .ok (.iload_n 2, 1) := by decide +kernel
theorem dCV_isLike_18 : decode cCV_isLike 18 = .ok (.iaload, 1) := by decide +kernel
theorem dCV_isLike_19 : decode cCV_isLike 19 = .ok (.if_icmp .eq 5, 3) := by decide +kernel
theorem dCV_isLike_22 : decode cCV_isLike 22 = .ok (.iconst 0, 1) := by decide +kernel
theorem dCV_isLike_23 : decode cCV_isLike 23 = .ok (.ireturn, 1) := by decide +kernel
theorem dCV_isLike_24 : decode cCV_isLike 24 = .ok (.iconst 0, 1) := by decide +kernel
theorem dCV_isLike_25 : decode cCV_isLike 25 = .ok (.istore_n 3, 1) := by decide +kernel
theorem dCV_isLike_26 : decode cCV_isLike 26 = .ok (.iload_n 3, 1) := by decide +kernel
theorem dCV_isLike_27 : decode cCV_isLike 27 = .ok (.aload_n 0, 1) := by decide +kernel
theorem dCV_isLike_28 : decode cCV_isLike 28 = .ok (.getfield 9, 3) := by decide +kernel
theorem dCV_isLike_31 : decode cCV_isLike 31 = .ok (.iload_n 2, 1) := by decide +kernel
theorem dCV_isLike_32 : decode cCV_isLike 32 = .ok (.iaload, 1) := by decide +kernel
theorem dCV_isLike_33 : decode cCV_isLike 33 = .ok (.if_icmp .ge 31, 3) := by decide +kernel
theorem dCV_isLike_36 : decode cCV_isLike 36 = .ok (.aload_n 0, 1) := by decide +kernel
theorem dCV_isLike_37 : decode cCV_isLike 37 = .ok (.getfield 17, 3) := by decide +kernel
theorem dCV_isLike_40 : decode cCV_isLike 40 = .ok (.iload_n 2, 1) := by decide +kernel
theorem dCV_isLike_41 : decode cCV_isLike 41 = .ok (.aaload, 1) := by decide +kernel
theorem dCV_isLike_42 : decode cCV_isLike 42 = .ok (.iload_n 3, 1) := by decide +kernel
theorem dCV_isLike_43 : decode cCV_isLike 43 = .ok (.laload, 1) := by decide +kernel
theorem dCV_isLike_44 : decode cCV_isLike 44 = .ok (.aload_n 1, 1) := by decide +kernel
theorem dCV_isLike_45 : decode cCV_isLike 45 = .ok (.getfield 17, 3) := by decide +kernel
theorem dCV_isLike_48 : decode cCV_isLike 48 = .ok (.iload_n 2, 1) := by decide +kernel
theorem dCV_isLike_49 : decode cCV_isLike 49 = .ok (.aaload, 1) := by decide +kernel
theorem dCV_isLike_50 : decode cCV_isLike 50 = .ok (.iload_n 3, 1) := by decide +kernel
theorem dCV_isLike_51 : decode cCV_isLike 51 = .ok (.laload, 1) := by decide +kernel
theorem dCV_isLike_52 : decode cCV_isLike 52 = .ok (.lcmp, 1) := by decide +kernel
theorem dCV_isLike_53 : decode cCV_isLike 53 = .ok (.ifCond .eq 5, 3) := by decide +kernel
theorem dCV_isLike_56 : decode cCV_isLike 56 = .ok (.iconst 0, 1) := by decide +kernel
theorem dCV_isLike_57 : decode cCV_isLike 57 = .ok (.ireturn, 1) := by decide +kernel
theorem dCV_isLike_58 : decode cCV_isLike 58 = .ok (.iinc 3 1, 3) := by decide +kernel
theorem dCV_isLike_61 : decode cCV_isLike 61 = .ok (.goto (-35), 3) := by decide +kernel
theorem dCV_isLike_64 : decode cCV_isLike 64 = .ok (.iinc 2 1, 3) := by decide +kernel
theorem dCV_isLike_67 : decode cCV_isLike 67 = .ok (.goto (-65), 3) := by decide +kernel
theorem dCV_isLike_70 : decode cCV_isLike 70 = .ok (.iconst 1, 1) := by decide +kernel
theorem dCV_isLike_71 : decode cCV_isLike 71 = .ok (.ireturn, 1) := by decide +kernel
theorem dPD_make_0 : decode cPD_make 0 = .ok (.iload_n 1, 1) := by decide +kernel
theorem dPD_make_1 : decode cPD_make 1 = .ok (.invokestatic 54, 3) := by decide +kernel
theorem dPD_make_4 : decode cPD_make 4 = .ok (.ifCond .ne 13, 3) := by decide +kernel
theorem dPD_make_7 : decode cPD_make 7 = .ok (.new 57, 3) := by decide +kernel
theorem dPD_make_10 : decode cPD_make 10 = .ok (.dup, 1) := by decide +kernel
theorem dPD_make_11 : decode cPD_make 11 = .ok (.ldc 59, 2) := by decide +kernel
theorem dPD_make_13 : decode cPD_make 13 = .ok (.invokespecial 61, 3) := by decide +kernel
theorem dPD_make_16 : decode cPD_make 16 = .ok (.athrow, 1) := by decide +kernel
theorem dPD_make_17 : decode cPD_make 17 = .ok (.aload_n 0, 1) := by decide +kernel
theorem dPD_make_18 : decode cPD_make 18 = .ok (.getfield 10, 3) := by decide +kernel
theorem dPD_make_21 : decode cPD_make 21 = .ok (.getfield 64, 3) := by decide +kernel
theorem dPD_make_24 : decode cPD_make 24 = .ok (.iload_n 1, 1) := by decide +kernel
theorem dPD_make_25 : decode cPD_make 25 = .ok (.invokevirtual 68, 3) := by decide +kernel
theorem dPD_make_28 : decode cPD_make 28 = .ok (.ifCond .eq 13, 3) := by decide +kernel
theorem dPD_make_31 : decode cPD_make 31 = .ok (.new 71, 3) := by decide +kernel
theorem dPD_make_34 : decode cPD_make 34 = .ok (.dup, 1) := by decide +kernel
theorem dPD_make_35 : decode cPD_make 35 = .ok (.ldc 73, 2) := by decide +kernel
theorem dPD_make_37 : decode cPD_make 37 = .ok (.invokespecial 75, 3) := by decide +kernel
theorem dPD_make_40 : decode cPD_make 40 = .ok (.athrow, 1) := by decide +kernel
theorem dPD_make_41 : decode cPD_make 41 = .ok (.aload_n 0, 1) := by decide +kernel
theorem dPD_make_42 : decode cPD_make 42 = .ok (.getfield 16, 3) := by decide +kernel
theorem dPD_make_45 : decode cPD_make 45 = .ok (.getfield 64, 3) := by decide +kernel
theorem dPD_make_48 : decode cPD_make 48 = .ok (.iload_n 1, 1) := by decide +kernel
theorem dPD_make_49 : decode cPD_make 49 = .ok (.invokevirtual 76, 3) := by decide +kernel
theorem dPD_make_52 : decode cPD_make 52 = .ok (.pop, 1) := by decide +kernel
theorem dPD_make_53 : decode cPD_make 53 = .ok (.aload_n 0, 1) := by decide +kernel
theorem dPD_make_54 : decode cPD_make 54 = .ok (.getfield 10, 3) := by decide +kernel
theorem dPD_make_57 : decode cPD_make 57 = .ok (.getfield 64, 3) := by decide +kernel
theorem dPD_make_60 : decode cPD_make 60 = .ok (.iload_n 1, 1) := by decide +kernel
theorem dPD_make_61 : decode cPD_make 61 = .ok (.invokevirtual 76, 3) := by decide +kernel
theorem dPD_make_64 : decode cPD_make 64 = .ok (.ireturn, 1) := by decide +kernel
theorem dPD_told_0 : decode cPD_told 0 = .ok (.iload_n 1, 1) := by decide +kernel
theorem dPD_told_1 : decode cPD_told 1 = .ok (.ifCond .lt 9, 3) := by decide +kernel
theorem dPD_told_4 : decode cPD_told 4 = .ok (.iload_n 1, 1) := by decide +kernel
theorem dPD_told_5 : decode cPD_told 5 = .ok (.bipush 8, 2) := by decide +kernel
theorem dPD_told_7 : decode cPD_told 7 = .ok (.if_icmp .lt 13, 3) := by decide +kernel
theorem dPD_told_10 : decode cPD_told 10 = .ok (.new 91, 3) := by decide +kernel
theorem dPD_told_13 : decode cPD_told 13 = .ok (.dup, 1) := by decide +kernel
theorem dPD_told_14 : decode cPD_told 14 = .ok (.ldc 93, 2) := by decide +kernel
theorem dPD_told_16 : decode cPD_told 16 = .ok (.invokespecial 95, 3) := by decide +kernel
theorem dPD_told_19 : decode cPD_told 19 = .ok (.athrow, 1) := by decide +kernel
theorem dPD_told_20 : decode cPD_told 20 = .ok (.aload_n 0, 1) := by decide +kernel
theorem dPD_told_21 : decode cPD_told 21 = .ok (.getfield 10, 3) := by decide +kernel
theorem dPD_told_24 : decode cPD_told 24 = .ok (.getfield 96, 3) := by decide +kernel
theorem dPD_told_27 : decode cPD_told 27 = .ok (.iload_n 1, 1) := by decide +kernel
theorem dPD_told_28 : decode cPD_told 28 = .ok (.invokevirtual 100, 3) := by decide +kernel
theorem dPD_told_31 : decode cPD_told 31 = .ok (.lreturn, 1) := by decide +kernel
theorem dTL_fact_0 : decode cTL_fact 0 = .ok (.aload_n 0, 1) := by decide +kernel
theorem dTL_fact_1 : decode cTL_fact 1 = .ok (.getfield 9, 3) := by decide +kernel
theorem dTL_fact_4 : decode cTL_fact 4 = .ok (.iload_n 1, 1) := by decide +kernel
theorem dTL_fact_5 : decode cTL_fact 5 = .ok (.laload, 1) := by decide +kernel
theorem dTL_fact_6 : decode cTL_fact 6 = .ok (.lreturn, 1) := by decide +kernel
theorem dPD_number_0 : decode cPD_number 0 = .ok (.iload_n 1, 1) := by decide +kernel
theorem dPD_number_1 : decode cPD_number 1 = .ok (.invokestatic 54, 3) := by decide +kernel
theorem dPD_number_4 : decode cPD_number 4 = .ok (.ifCond .ne 13, 3) := by decide +kernel
theorem dPD_number_7 : decode cPD_number 7 = .ok (.new 57, 3) := by decide +kernel
theorem dPD_number_10 : decode cPD_number 10 = .ok (.dup, 1) := by decide +kernel
theorem dPD_number_11 : decode cPD_number 11 = .ok (.ldc 59, 2) := by decide +kernel
theorem dPD_number_13 : decode cPD_number 13 = .ok (.invokespecial 61, 3) := by decide +kernel
theorem dPD_number_16 : decode cPD_number 16 = .ok (.athrow, 1) := by decide +kernel
theorem dPD_number_17 : decode cPD_number 17 = .ok (.aload_n 0, 1) := by decide +kernel
theorem dPD_number_18 : decode cPD_number 18 = .ok (.getfield 10, 3) := by decide +kernel
theorem dPD_number_21 : decode cPD_number 21 = .ok (.getfield 64, 3) := by decide +kernel
theorem dPD_number_24 : decode cPD_number 24 = .ok (.iload_n 1, 1) := by decide +kernel
theorem dPD_number_25 : decode cPD_number 25 = .ok (.iload_n 2, 1) := by decide +kernel
theorem dPD_number_26 : decode cPD_number 26 = .ok (.invokevirtual 109, 3) := by decide +kernel
theorem dPD_number_29 : decode cPD_number 29 = .ok (.ireturn, 1) := by decide +kernel
theorem dNU_knownAt_0 : decode cNU_knownAt 0 = .ok (.iconst 0, 1) := by decide +kernel
theorem dNU_knownAt_1 : decode cNU_knownAt 1 = .ok (.istore_n 3, 1) := by decide +kernel
theorem dNU_knownAt_2 : decode cNU_knownAt 2 = .ok (.iconst 1, 1) := by decide +kernel
theorem dNU_knownAt_3 : decode cNU_knownAt 3 = .ok (.istore 4, 2) := by decide +kernel
theorem dNU_knownAt_5 : decode cNU_knownAt 5 = .ok (.iload 4, 2) := by decide +kernel
theorem dNU_knownAt_7 : decode cNU_knownAt 7 = .ok (.aload_n 0, 1) := by decide +kernel
theorem dNU_knownAt_8 : decode cNU_knownAt 8 = .ok (.getfield 9, 3) := by decide +kernel
theorem dNU_knownAt_11 : decode cNU_knownAt 11 = .ok (.iload_n 1, 1) := by decide +kernel
theorem dNU_knownAt_12 : decode cNU_knownAt 12 = .ok (.iaload, 1) := by decide +kernel
theorem dNU_knownAt_13 : decode cNU_knownAt 13 = .ok (.if_icmp .gt 30, 3) := by decide +kernel
theorem dNU_knownAt_16 : decode cNU_knownAt 16 = .ok (.aload_n 0, 1) := by decide +kernel
theorem dNU_knownAt_17 : decode cNU_knownAt 17 = .ok (.iload_n 1, 1) := by decide +kernel
theorem dNU_knownAt_18 : decode cNU_knownAt 18 = .ok (.iload 4, 2) := by decide +kernel
theorem dNU_knownAt_20 : decode cNU_knownAt 20 = .ok (.invokevirtual 35, 3) := by decide +kernel
theorem dNU_knownAt_23 : decode cNU_knownAt 23 = .ok (.ifCond .eq 14, 3) := by decide +kernel
theorem dNU_knownAt_26 : decode cNU_knownAt 26 = .ok (.iload_n 3, 1) := by decide +kernel
theorem dNU_knownAt_27 : decode cNU_knownAt 27 = .ok (.iload_n 2, 1) := by decide +kernel
theorem dNU_knownAt_28 : decode cNU_knownAt 28 = .ok (.if_icmp .ne 6, 3) := by decide +kernel
theorem dNU_knownAt_31 : decode cNU_knownAt 31 = .ok (.iload 4, 2) := by decide +kernel
theorem dNU_knownAt_33 : decode cNU_knownAt 33 = .ok (.ireturn, 1) := by decide +kernel
theorem dNU_knownAt_34 : decode cNU_knownAt 34 = .ok (.iinc 3 1, 3) := by decide +kernel
theorem dNU_knownAt_37 : decode cNU_knownAt 37 = .ok (.iinc 4 1, 3) := by decide +kernel
theorem dNU_knownAt_40 : decode cNU_knownAt 40 = .ok (.goto (-35), 3) := by decide +kernel
theorem dNU_knownAt_43 : decode cNU_knownAt 43 = .ok (.iconst (-1), 1) := by decide +kernel
theorem dNU_knownAt_44 : decode cNU_knownAt 44 = .ok (.ireturn, 1) := by decide +kernel
theorem dPD_collected_0 : decode cPD_collected 0 = .ok (.iload_n 1, 1) := by decide +kernel
theorem dPD_collected_1 : decode cPD_collected 1 = .ok (.ifCond .lt 27, 3) := by decide +kernel
theorem dPD_collected_4 : decode cPD_collected 4 = .ok (.iload_n 1, 1) := by decide +kernel
theorem dPD_collected_5 : decode cPD_collected 5 = .ok (.iconst 4, 1) := by decide +kernel
theorem dPD_collected_6 : decode cPD_collected 6 = .ok (.if_icmp .ge 22, 3) := by decide +kernel
theorem dPD_collected_9 : decode cPD_collected 9 = .ok (.iload_n 2, 1) := by decide +kernel
theorem dPD_collected_10 : decode cPD_collected 10 = .ok (.ifCond .lt 18, 3) := by decide +kernel
theorem dPD_collected_13 : decode cPD_collected 13 = .ok (.iload_n 2, 1) := by decide +kernel
theorem dPD_collected_14 : decode cPD_collected 14 = .ok (.aload_n 0, 1) := by decide +kernel
theorem dPD_collected_15 : decode cPD_collected 15 = .ok (.getfield 10, 3) := by decide +kernel
theorem dPD_collected_18 : decode cPD_collected 18 = .ok (.getfield 25, 3) := by decide +kernel
theorem dPD_collected_21 : decode cPD_collected 21 = .ok (.iload_n 1, 1) := by decide +kernel
theorem dPD_collected_22 : decode cPD_collected 22 = .ok (.invokevirtual 113, 3) := by decide +kernel
theorem dPD_collected_25 : decode cPD_collected 25 = .ok (.if_icmp .lt 13, 3) := by decide +kernel
theorem dPD_collected_28 : decode cPD_collected 28 = .ok (.new 91, 3) := by decide +kernel
theorem dPD_collected_31 : decode cPD_collected 31 = .ok (.dup, 1) := by decide +kernel
theorem dPD_collected_32 : decode cPD_collected 32 = .ok (.ldc 116, 2) := by decide +kernel
theorem dPD_collected_34 : decode cPD_collected 34 = .ok (.invokespecial 95, 3) := by decide +kernel
theorem dPD_collected_37 : decode cPD_collected 37 = .ok (.athrow, 1) := by decide +kernel
theorem dPD_collected_38 : decode cPD_collected 38 = .ok (.aload_n 0, 1) := by decide +kernel
theorem dPD_collected_39 : decode cPD_collected 39 = .ok (.getfield 10, 3) := by decide +kernel
theorem dPD_collected_42 : decode cPD_collected 42 = .ok (.getfield 25, 3) := by decide +kernel
theorem dPD_collected_45 : decode cPD_collected 45 = .ok (.iload_n 1, 1) := by decide +kernel
theorem dPD_collected_46 : decode cPD_collected 46 = .ok (.iload_n 2, 1) := by decide +kernel
theorem dPD_collected_47 : decode cPD_collected 47 = .ok (.invokevirtual 118, 3) := by decide +kernel
theorem dPD_collected_50 : decode cPD_collected 50 = .ok (.lreturn, 1) := by decide +kernel
theorem dCV_size_0 : decode cCV_size 0 = .ok (.aload_n 0, 1) := by decide +kernel
theorem dCV_size_1 : decode cCV_size 1 = .ok (.getfield 9, 3) := by decide +kernel
theorem dCV_size_4 : decode cCV_size 4 = .ok (.iload_n 1, 1) := by decide +kernel
theorem dCV_size_5 : decode cCV_size 5 = .ok (.iaload, 1) := by decide +kernel
theorem dCV_size_6 : decode cCV_size 6 = .ok (.ireturn, 1) := by decide +kernel
theorem dCV_valueAt_0 : decode cCV_valueAt 0 = .ok (.aload_n 0, 1) := by decide +kernel
theorem dCV_valueAt_1 : decode cCV_valueAt 1 = .ok (.getfield 17, 3) := by decide +kernel
theorem dCV_valueAt_4 : decode cCV_valueAt 4 = .ok (.iload_n 1, 1) := by decide +kernel
theorem dCV_valueAt_5 : decode cCV_valueAt 5 = .ok (.aaload, 1) := by decide +kernel
theorem dCV_valueAt_6 : decode cCV_valueAt 6 = .ok (.iload_n 2, 1) := by decide +kernel
theorem dCV_valueAt_7 : decode cCV_valueAt 7 = .ok (.laload, 1) := by decide +kernel
theorem dCV_valueAt_8 : decode cCV_valueAt 8 = .ok (.lreturn, 1) := by decide +kernel
theorem dPD_log_0 : decode cPD_log 0 = .ok (.iload_n 1, 1) := by decide +kernel
theorem dPD_log_1 : decode cPD_log 1 = .ok (.invokestatic 122, 3) := by decide +kernel
theorem dPD_log_4 : decode cPD_log 4 = .ok (.ifCond .eq 22, 3) := by decide +kernel
theorem dPD_log_7 : decode cPD_log 7 = .ok (.iload_n 2, 1) := by decide +kernel
theorem dPD_log_8 : decode cPD_log 8 = .ok (.ifCond .lt 18, 3) := by decide +kernel
theorem dPD_log_11 : decode cPD_log 11 = .ok (.iload_n 2, 1) := by decide +kernel
theorem dPD_log_12 : decode cPD_log 12 = .ok (.aload_n 0, 1) := by decide +kernel
theorem dPD_log_13 : decode cPD_log 13 = .ok (.iload_n 1, 1) := by decide +kernel
theorem dPD_log_14 : decode cPD_log 14 = .ok (.invokevirtual 125, 3) := by decide +kernel
theorem dPD_log_17 : decode cPD_log 17 = .ok (.getfield 129, 3) := by decide +kernel
theorem dPD_log_20 : decode cPD_log 20 = .ok (.invokevirtual 133, 3) := by decide +kernel
theorem dPD_log_23 : decode cPD_log 23 = .ok (.if_icmp .lt 13, 3) := by decide +kernel
theorem dPD_log_26 : decode cPD_log 26 = .ok (.new 91, 3) := by decide +kernel
theorem dPD_log_29 : decode cPD_log 29 = .ok (.dup, 1) := by decide +kernel
theorem dPD_log_30 : decode cPD_log 30 = .ok (.ldc 138, 2) := by decide +kernel
theorem dPD_log_32 : decode cPD_log 32 = .ok (.invokespecial 95, 3) := by decide +kernel
theorem dPD_log_35 : decode cPD_log 35 = .ok (.athrow, 1) := by decide +kernel
theorem dPD_log_36 : decode cPD_log 36 = .ok (.aload_n 0, 1) := by decide +kernel
theorem dPD_log_37 : decode cPD_log 37 = .ok (.iload_n 1, 1) := by decide +kernel
theorem dPD_log_38 : decode cPD_log 38 = .ok (.invokevirtual 125, 3) := by decide +kernel
theorem dPD_log_41 : decode cPD_log 41 = .ok (.getfield 129, 3) := by decide +kernel
theorem dPD_log_44 : decode cPD_log 44 = .ok (.iload_n 2, 1) := by decide +kernel
theorem dPD_log_45 : decode cPD_log 45 = .ok (.invokevirtual 140, 3) := by decide +kernel
theorem dPD_log_48 : decode cPD_log 48 = .ok (.lreturn, 1) := by decide +kernel
theorem dPD_isDesk_0 : decode cPD_isDesk 0 = .ok (.iload_n 0, 1) := by decide +kernel
theorem dPD_isDesk_1 : decode cPD_isDesk 1 = .ok (.ifCond .eq 8, 3) := by decide +kernel
theorem dPD_isDesk_4 : decode cPD_isDesk 4 = .ok (.iload_n 0, 1) := by decide +kernel
theorem dPD_isDesk_5 : decode cPD_isDesk 5 = .ok (.iconst 1, 1) := by decide +kernel
theorem dPD_isDesk_6 : decode cPD_isDesk 6 = .ok (.if_icmp .ne 7, 3) := by decide +kernel
theorem dPD_isDesk_9 : decode cPD_isDesk 9 = .ok (.iconst 1, 1) := by decide +kernel
theorem dPD_isDesk_10 : decode cPD_isDesk 10 = .ok (.goto 4, 3) := by decide +kernel
theorem dPD_isDesk_13 : decode cPD_isDesk 13 = .ok (.iconst 0, 1) := by decide +kernel
theorem dPD_isDesk_14 : decode cPD_isDesk 14 = .ok (.ireturn, 1) := by decide +kernel
theorem dPD_deskAt_0 : decode cPD_deskAt 0 = .ok (.iload_n 1, 1) := by decide +kernel
theorem dPD_deskAt_1 : decode cPD_deskAt 1 = .ok (.ifCond .ne 10, 3) := by decide +kernel
theorem dPD_deskAt_4 : decode cPD_deskAt 4 = .ok (.aload_n 0, 1) := by decide +kernel
theorem dPD_deskAt_5 : decode cPD_deskAt 5 = .ok (.getfield 10, 3) := by decide +kernel
theorem dPD_deskAt_8 : decode cPD_deskAt 8 = .ok (.goto 7, 3) := by decide +kernel
theorem dPD_deskAt_11 : decode cPD_deskAt 11 = .ok (.aload_n 0, 1) := by decide +kernel
theorem dPD_deskAt_12 : decode cPD_deskAt 12 = .ok (.getfield 16, 3) := by decide +kernel
theorem dPD_deskAt_15 : decode cPD_deskAt 15 = .ok (.areturn, 1) := by decide +kernel
theorem dJN_size_0 : decode cJN_size 0 = .ok (.aload_n 0, 1) := by decide +kernel
theorem dJN_size_1 : decode cJN_size 1 = .ok (.getfield 13, 3) := by decide +kernel
theorem dJN_size_4 : decode cJN_size 4 = .ok (.ireturn, 1) := by decide +kernel
theorem dPD_sum_0 : decode cPD_sum 0 = .ok (.iload_n 1, 1) := by decide +kernel
theorem dPD_sum_1 : decode cPD_sum 1 = .ok (.invokestatic 122, 3) := by decide +kernel
theorem dPD_sum_4 : decode cPD_sum 4 = .ok (.ifCond .eq 10, 3) := by decide +kernel
theorem dPD_sum_7 : decode cPD_sum 7 = .ok (.iload_n 2, 1) := by decide +kernel
theorem dPD_sum_8 : decode cPD_sum 8 = .ok (.invokestatic 37, 3) := by decide +kernel
theorem dPD_sum_11 : decode cPD_sum 11 = .ok (.ifCond .ne 13, 3) := by decide +kernel
theorem dPD_sum_14 : decode cPD_sum 14 = .ok (.new 57, 3) := by decide +kernel
theorem dPD_sum_17 : decode cPD_sum 17 = .ok (.dup, 1) := by decide +kernel
theorem dPD_sum_18 : decode cPD_sum 18 = .ok (.ldc 143, 2) := by decide +kernel
theorem dPD_sum_20 : decode cPD_sum 20 = .ok (.invokespecial 61, 3) := by decide +kernel
theorem dPD_sum_23 : decode cPD_sum 23 = .ok (.athrow, 1) := by decide +kernel
theorem dPD_sum_24 : decode cPD_sum 24 = .ok (.aload_n 0, 1) := by decide +kernel
theorem dPD_sum_25 : decode cPD_sum 25 = .ok (.iload_n 1, 1) := by decide +kernel
theorem dPD_sum_26 : decode cPD_sum 26 = .ok (.invokevirtual 125, 3) := by decide +kernel
theorem dPD_sum_29 : decode cPD_sum 29 = .ok (.getfield 40, 3) := by decide +kernel
theorem dPD_sum_32 : decode cPD_sum 32 = .ok (.iload_n 2, 1) := by decide +kernel
theorem dPD_sum_33 : decode cPD_sum 33 = .ok (.invokevirtual 145, 3) := by decide +kernel
theorem dPD_sum_36 : decode cPD_sum 36 = .ok (.lreturn, 1) := by decide +kernel
end
section
theorem dMO_init_0 : decode cMO_init 0 = .ok (.aload_n 0, 1) := by decide +kernel
theorem dMO_init_1 : decode cMO_init 1 = .ok (.invokespecial 1, 3) := by decide +kernel
theorem dMO_init_4 : decode cMO_init 4 = .ok (.aload_n 0, 1) := by decide +kernel
theorem dMO_init_5 : decode cMO_init 5 = .ok (.bipush 8, 2) := by decide +kernel
theorem dMO_init_7 : decode cMO_init 7 = .ok (.newarray .int, 2) := by decide +kernel
theorem dMO_init_9 : decode cMO_init 9 = .ok (.putfield 7, 3) := by decide +kernel
theorem dMO_init_12 : decode cMO_init 12 = .ok (.aload_n 0, 1) := by decide +kernel
theorem dMO_init_13 : decode cMO_init 13 = .ok (.sipush 320, 3) := by decide +kernel
theorem dMO_init_16 : decode cMO_init 16 = .ok (.newarray .boolean, 2) := by decide +kernel
theorem dMO_init_18 : decode cMO_init 18 = .ok (.putfield 13, 3) := by decide +kernel
theorem dMO_init_21 : decode cMO_init 21 = .ok (.aload_n 0, 1) := by decide +kernel
theorem dMO_init_22 : decode cMO_init 22 = .ok (.bipush 12, 2) := by decide +kernel
theorem dMO_init_24 : decode cMO_init 24 = .ok (.newarray .long, 2) := by decide +kernel
theorem dMO_init_26 : decode cMO_init 26 = .ok (.putfield 17, 3) := by decide +kernel
theorem dMO_init_29 : decode cMO_init 29 = .ok (.aload_n 0, 1) := by decide +kernel
theorem dMO_init_30 : decode cMO_init 30 = .ok (.bipush 24, 2) := by decide +kernel
theorem dMO_init_32 : decode cMO_init 32 = .ok (.newarray .int, 2) := by decide +kernel
theorem dMO_init_34 : decode cMO_init 34 = .ok (.putfield 21, 3) := by decide +kernel
theorem dMO_init_37 : decode cMO_init 37 = .ok (.aload_n 0, 1) := by decide +kernel
theorem dMO_init_38 : decode cMO_init 38 = .ok (.bipush 24, 2) := by decide +kernel
theorem dMO_init_40 : decode cMO_init 40 = .ok (.newarray .long, 2) := by decide +kernel
theorem dMO_init_42 : decode cMO_init 42 = .ok (.putfield 24, 3) := by decide +kernel
theorem dMO_init_45 : decode cMO_init 45 = .ok (.aload_n 0, 1) := by decide +kernel
theorem dMO_init_46 : decode cMO_init 46 = .ok (.iconst 2, 1) := by decide +kernel
theorem dMO_init_47 : decode cMO_init 47 = .ok (.newarray .int, 2) := by decide +kernel
theorem dMO_init_49 : decode cMO_init 49 = .ok (.putfield 27, 3) := by decide +kernel
theorem dMO_init_52 : decode cMO_init 52 = .ok (.aload_n 0, 1) := by decide +kernel
theorem dMO_init_53 : decode cMO_init 53 = .ok (.sipush 128, 3) := by decide +kernel
theorem dMO_init_56 : decode cMO_init 56 = .ok (.newarray .long, 2) := by decide +kernel
theorem dMO_init_58 : decode cMO_init 58 = .ok (.putfield 30, 3) := by decide +kernel
theorem dMO_init_61 : decode cMO_init 61 = .ok (.aload_n 0, 1) := by decide +kernel
theorem dMO_init_62 : decode cMO_init 62 = .ok (.bipush 16, 2) := by decide +kernel
theorem dMO_init_64 : decode cMO_init 64 = .ok (.newarray .long, 2) := by decide +kernel
theorem dMO_init_66 : decode cMO_init 66 = .ok (.putfield 33, 3) := by decide +kernel
theorem dMO_init_69 : decode cMO_init 69 = .ok (.aload_n 0, 1) := by decide +kernel
theorem dMO_init_70 : decode cMO_init 70 = .ok (.iconst 4, 1) := by decide +kernel
theorem dMO_init_71 : decode cMO_init 71 = .ok (.newarray .int, 2) := by decide +kernel
theorem dMO_init_73 : decode cMO_init 73 = .ok (.putfield 36, 3) := by decide +kernel
theorem dMO_init_76 : decode cMO_init 76 = .ok (.aload_n 0, 1) := by decide +kernel
theorem dMO_init_77 : decode cMO_init 77 = .ok (.sipush 400, 3) := by decide +kernel
theorem dMO_init_80 : decode cMO_init 80 = .ok (.newarray .long, 2) := by decide +kernel
theorem dMO_init_82 : decode cMO_init 82 = .ok (.putfield 39, 3) := by decide +kernel
theorem dMO_init_85 : decode cMO_init 85 = .ok (.aload_n 0, 1) := by decide +kernel
theorem dMO_init_86 : decode cMO_init 86 = .ok (.getfield 33, 3) := by decide +kernel
theorem dMO_init_89 : decode cMO_init 89 = .ok (.bipush 6, 2) := by decide +kernel
theorem dMO_init_91 : decode cMO_init 91 = .ok (.ldc2_w 42, 3) := by decide +kernel
theorem dMO_init_94 : decode cMO_init 94 = .ok (.lastore, 1) := by decide +kernel
theorem dMO_init_95 : decode cMO_init 95 = .ok (.aload_n 0, 1) := by decide +kernel
theorem dMO_init_96 : decode cMO_init 96 = .ok (.getfield 33, 3) := by decide +kernel
theorem dMO_init_99 : decode cMO_init 99 = .ok (.bipush 14, 2) := by decide +kernel
theorem dMO_init_101 : decode cMO_init 101 = .ok (.ldc2_w 42, 3) := by decide +kernel
theorem dMO_init_104 : decode cMO_init 104 = .ok (.lastore, 1) := by decide +kernel
theorem dMO_init_105 : decode cMO_init 105 = .ok (.return_, 1) := by decide +kernel
theorem dMO_thrown_0 : decode cMO_thrown 0 = .ok (.aload_n 0, 1) := by decide +kernel
theorem dMO_thrown_1 : decode cMO_thrown 1 = .ok (.getfield 44, 3) := by decide +kernel
theorem dMO_thrown_4 : decode cMO_thrown 4 = .ok (.ireturn, 1) := by decide +kernel
theorem dMO_collect_0 : decode cMO_collect 0 = .ok (.aload_n 0, 1) := by decide +kernel
theorem dMO_collect_1 : decode cMO_collect 1 = .ok (.iconst 0, 1) := by decide +kernel
theorem dMO_collect_2 : decode cMO_collect 2 = .ok (.putfield 44, 3) := by decide +kernel
theorem dMO_collect_5 : decode cMO_collect 5 = .ok (.iload_n 1, 1) := by decide +kernel
theorem dMO_collect_6 : decode cMO_collect 6 = .ok (.i2l, 1) := by decide +kernel
theorem dMO_collect_7 : decode cMO_collect 7 = .ok (.lconst 0, 1) := by decide +kernel
theorem dMO_collect_8 : decode cMO_collect 8 = .ok (.ldc2_w 60, 3) := by decide +kernel
theorem dMO_collect_11 : decode cMO_collect 11 = .ok (.invokestatic 52, 3) := by decide +kernel
theorem dMO_collect_14 : decode cMO_collect 14 = .ok (.ifCond .eq 22, 3) := by decide +kernel
theorem dMO_collect_17 : decode cMO_collect 17 = .ok (.iload_n 1, 1) := by decide +kernel
theorem dMO_collect_18 : decode cMO_collect 18 = .ok (.lload_n 2, 1) := by decide +kernel
theorem dMO_collect_19 : decode cMO_collect 19 = .ok (.invokestatic 62, 3) := by decide +kernel
theorem dMO_collect_22 : decode cMO_collect 22 = .ok (.ifCond .eq 14, 3) := by decide +kernel
theorem dMO_collect_25 : decode cMO_collect 25 = .ok (.aload_n 0, 1) := by decide +kernel
theorem dMO_collect_26 : decode cMO_collect 26 = .ok (.getfield 36, 3) := by decide +kernel
theorem dMO_collect_29 : decode cMO_collect 29 = .ok (.iload_n 1, 1) := by decide +kernel
theorem dMO_collect_30 : decode cMO_collect 30 = .ok (.iaload, 1) := by decide +kernel
theorem dMO_collect_31 : decode cMO_collect 31 = .ok (.bipush 100, 2) := by decide +kernel
theorem dMO_collect_33 : decode cMO_collect 33 = .ok (.if_icmp .ne 5, 3) := by decide +kernel
theorem dMO_collect_36 : decode cMO_collect 36 = .ok (.iconst (-1), 1) := by decide +kernel
theorem dMO_collect_37 : decode cMO_collect 37 = .ok (.ireturn, 1) := by decide +kernel
theorem dMO_collect_38 : decode cMO_collect 38 = .ok (.aload_n 0, 1) := by decide +kernel
theorem dMO_collect_39 : decode cMO_collect 39 = .ok (.getfield 39, 3) := by decide +kernel
theorem dMO_collect_42 : decode cMO_collect 42 = .ok (.bipush 100, 2) := by decide +kernel
theorem dMO_collect_44 : decode cMO_collect 44 = .ok (.iload_n 1, 1) := by decide +kernel
theorem dMO_collect_45 : decode cMO_collect 45 = .ok (.imul, 1) := by decide +kernel
theorem dMO_collect_46 : decode cMO_collect 46 = .ok (.aload_n 0, 1) := by decide +kernel
theorem dMO_collect_47 : decode cMO_collect 47 = .ok (.getfield 36, 3) := by decide +kernel
theorem dMO_collect_50 : decode cMO_collect 50 = .ok (.iload_n 1, 1) := by decide +kernel
theorem dMO_collect_51 : decode cMO_collect 51 = .ok (.iaload, 1) := by decide +kernel
theorem dMO_collect_52 : decode cMO_collect 52 = .ok (.iadd, 1) := by decide +kernel
theorem dMO_collect_53 : decode cMO_collect 53 = .ok (.lload_n 2, 1) := by decide +kernel
theorem dMO_collect_54 : decode cMO_collect 54 = .ok (.lastore, 1) := by decide +kernel
theorem dMO_collect_55 : decode cMO_collect 55 = .ok (.aload_n 0, 1) := by decide +kernel
theorem dMO_collect_56 : decode cMO_collect 56 = .ok (.getfield 36, 3) := by decide +kernel
theorem dMO_collect_59 : decode cMO_collect 59 = .ok (.iload_n 1, 1) := by decide +kernel
theorem dMO_collect_60 : decode cMO_collect 60 = .ok (.dup2, 1) := by decide +kernel
theorem dMO_collect_61 : decode cMO_collect 61 = .ok (.iaload, 1) := by decide +kernel
theorem dMO_collect_62 : decode cMO_collect 62 = .ok (.iconst 1, 1) := by decide +kernel
theorem dMO_collect_63 : decode cMO_collect 63 = .ok (.iadd, 1) := by decide +kernel
theorem dMO_collect_64 : decode cMO_collect 64 = .ok (.iastore, 1) := by decide +kernel
theorem dMO_collect_65 : decode cMO_collect 65 = .ok (.iload_n 1, 1) := by decide +kernel
theorem dMO_collect_66 : decode cMO_collect 66 = .ok (.iconst 3, 1) := by decide +kernel
theorem dMO_collect_67 : decode cMO_collect 67 = .ok (.if_icmp .ne 30, 3) := by decide +kernel
theorem dMO_collect_70 : decode cMO_collect 70 = .ok (.aload_n 0, 1) := by decide +kernel
theorem dMO_collect_71 : decode cMO_collect 71 = .ok (.getfield 7, 3) := by decide +kernel
theorem dMO_collect_74 : decode cMO_collect 74 = .ok (.lload_n 2, 1) := by decide +kernel
theorem dMO_collect_75 : decode cMO_collect 75 = .ok (.l2i, 1) := by decide +kernel
theorem dMO_collect_76 : decode cMO_collect 76 = .ok (.dup2, 1) := by decide +kernel
theorem dMO_collect_77 : decode cMO_collect 77 = .ok (.iaload, 1) := by decide +kernel
theorem dMO_collect_78 : decode cMO_collect 78 = .ok (.aload_n 0, 1) := by decide +kernel
theorem dMO_collect_79 : decode cMO_collect 79 = .ok (.getfield 7, 3) := by decide +kernel
theorem dMO_collect_82 : decode cMO_collect 82 = .ok (.lload_n 2, 1) := by decide +kernel
theorem dMO_collect_83 : decode cMO_collect 83 = .ok (.l2i, 1) := by decide +kernel
theorem dMO_collect_84 : decode cMO_collect 84 = .ok (.iaload, 1) := by decide +kernel
theorem dMO_collect_85 : decode cMO_collect 85 = .ok (.bipush 40, 2) := by decide +kernel
theorem dMO_collect_87 : decode cMO_collect 87 = .ok (.if_icmp .ge 7, 3) := by decide +kernel
theorem dMO_collect_90 : decode cMO_collect 90 = .ok (.iconst 1, 1) := by decide +kernel
theorem dMO_collect_91 : decode cMO_collect 91 = .ok (.goto 4, 3) := by decide +kernel
theorem dMO_collect_94 : decode cMO_collect 94 = .ok (.iconst 0, 1) := by decide +kernel
theorem dMO_collect_95 : decode cMO_collect 95 = .ok (.iadd, 1) := by decide +kernel
theorem dMO_collect_96 : decode cMO_collect 96 = .ok (.iastore, 1) := by decide +kernel
theorem dMO_collect_97 : decode cMO_collect 97 = .ok (.aload_n 0, 1) := by decide +kernel
theorem dMO_collect_98 : decode cMO_collect 98 = .ok (.getfield 36, 3) := by decide +kernel
theorem dMO_collect_101 : decode cMO_collect 101 = .ok (.iload_n 1, 1) := by decide +kernel
theorem dMO_collect_102 : decode cMO_collect 102 = .ok (.iaload, 1) := by decide +kernel
theorem dMO_collect_103 : decode cMO_collect 103 = .ok (.ireturn, 1) := by decide +kernel
theorem dMO_in_0 : decode cMO_in 0 = .ok (.lload_n 0, 1) := by decide +kernel
theorem dMO_in_1 : decode cMO_in 1 = .ok (.lload_n 2, 1) := by decide +kernel
theorem dMO_in_2 : decode cMO_in 2 = .ok (.lcmp, 1) := by decide +kernel
theorem dMO_in_3 : decode cMO_in 3 = .ok (.ifCond .lt 14, 3) := by decide +kernel
theorem dMO_in_6 : decode cMO_in 6 = .ok (.lload_n 0, 1) := by decide +kernel
theorem dMO_in_7 : decode cMO_in 7 = .ok (.lload 4, 2) := by decide +kernel
theorem dMO_in_9 : decode cMO_in 9 = .ok (.lcmp, 1) := by decide +kernel
theorem dMO_in_10 : decode cMO_in 10 = .ok (.ifCond .gt 7, 3) := by decide +kernel
theorem dMO_in_13 : decode cMO_in 13 = .ok (.iconst 1, 1) := by decide +kernel
theorem dMO_in_14 : decode cMO_in 14 = .ok (.goto 4, 3) := by decide +kernel
theorem dMO_in_17 : decode cMO_in 17 = .ok (.iconst 0, 1) := by decide +kernel
theorem dMO_in_18 : decode cMO_in 18 = .ok (.ireturn, 1) := by decide +kernel
theorem dMO_fits_0 : decode cMO_fits 0 = .ok (.iload_n 0, 1) := by decide +kernel
theorem dMO_fits_1 : decode cMO_fits 1 = .ok (.ifCond .ne 16, 3) := by decide +kernel
theorem dMO_fits_4 : decode cMO_fits 4 = .ok (.lload_n 1, 1) := by decide +kernel
theorem dMO_fits_5 : decode cMO_fits 5 = .ok (.ldc2_w 48, 3) := by decide +kernel
theorem dMO_fits_8 : decode cMO_fits 8 = .ok (.ldc2_w 50, 3) := by decide +kernel
theorem dMO_fits_11 : decode cMO_fits 11 = .ok (.invokestatic 52, 3) := by decide +kernel
theorem dMO_fits_14 : decode cMO_fits 14 = .ok (.goto 45, 3) := by decide +kernel
theorem dMO_fits_17 : decode cMO_fits 17 = .ok (.iload_n 0, 1) := by decide +kernel
theorem dMO_fits_18 : decode cMO_fits 18 = .ok (.iconst 1, 1) := by decide +kernel
theorem dMO_fits_19 : decode cMO_fits 19 = .ok (.if_icmp .ne 14, 3) := by decide +kernel
theorem dMO_fits_22 : decode cMO_fits 22 = .ok (.lload_n 1, 1) := by decide +kernel
theorem dMO_fits_23 : decode cMO_fits 23 = .ok (.lconst 0, 1) := by decide +kernel
theorem dMO_fits_24 : decode cMO_fits 24 = .ok (.ldc2_w 56, 3) := by decide +kernel
theorem dMO_fits_27 : decode cMO_fits 27 = .ok (.invokestatic 52, 3) := by decide +kernel
theorem dMO_fits_30 : decode cMO_fits 30 = .ok (.goto 29, 3) := by decide +kernel
theorem dMO_fits_33 : decode cMO_fits 33 = .ok (.iload_n 0, 1) := by decide +kernel
theorem dMO_fits_34 : decode cMO_fits 34 = .ok (.iconst 2, 1) := by decide +kernel
theorem dMO_fits_35 : decode cMO_fits 35 = .ok (.if_icmp .eq 19, 3) := by decide +kernel
theorem dMO_fits_38 : decode cMO_fits 38 = .ok (.iload_n 0, 1) := by decide +kernel
theorem dMO_fits_39 : decode cMO_fits 39 = .ok (.iconst 3, 1) := by decide +kernel
theorem dMO_fits_40 : decode cMO_fits 40 = .ok (.if_icmp .ne 18, 3) := by decide +kernel
theorem dMO_fits_43 : decode cMO_fits 43 = .ok (.lload_n 1, 1) := by decide +kernel
theorem dMO_fits_44 : decode cMO_fits 44 = .ok (.lconst 0, 1) := by decide +kernel
theorem dMO_fits_45 : decode cMO_fits 45 = .ok (.ldc2_w 58, 3) := by decide +kernel
theorem dMO_fits_48 : decode cMO_fits 48 = .ok (.invokestatic 52, 3) := by decide +kernel
theorem dMO_fits_51 : decode cMO_fits 51 = .ok (.ifCond .eq 7, 3) := by decide +kernel
theorem dMO_fits_54 : decode cMO_fits 54 = .ok (.iconst 1, 1) := by decide +kernel
theorem dMO_fits_55 : decode cMO_fits 55 = .ok (.goto 4, 3) := by decide +kernel
theorem dMO_fits_58 : decode cMO_fits 58 = .ok (.iconst 0, 1) := by decide +kernel
theorem dMO_fits_59 : decode cMO_fits 59 = .ok (.ireturn, 1) := by decide +kernel
theorem dMO_answer_0 : decode cMO_answer 0 = .ok (.aload_n 0, 1) := by decide +kernel
theorem dMO_answer_1 : decode cMO_answer 1 = .ok (.iconst 0, 1) := by decide +kernel
theorem dMO_answer_2 : decode cMO_answer 2 = .ok (.putfield 44, 3) := by decide +kernel
theorem dMO_answer_5 : decode cMO_answer 5 = .ok (.iload_n 1, 1) := by decide +kernel
theorem dMO_answer_6 : decode cMO_answer 6 = .ok (.invokestatic 66, 3) := by decide +kernel
theorem dMO_answer_9 : decode cMO_answer 9 = .ok (.ifCond .ne 5, 3) := by decide +kernel
theorem dMO_answer_12 : decode cMO_answer 12 = .ok (.iconst 0, 1) := by decide +kernel
theorem dMO_answer_13 : decode cMO_answer 13 = .ok (.ireturn, 1) := by decide +kernel
theorem dMO_answer_14 : decode cMO_answer 14 = .ok (.aload_n 0, 1) := by decide +kernel
theorem dMO_answer_15 : decode cMO_answer 15 = .ok (.getfield 17, 3) := by decide +kernel
theorem dMO_answer_18 : decode cMO_answer 18 = .ok (.iload_n 1, 1) := by decide +kernel
theorem dMO_answer_19 : decode cMO_answer 19 = .ok (.lload_n 2, 1) := by decide +kernel
theorem dMO_answer_20 : decode cMO_answer 20 = .ok (.lastore, 1) := by decide +kernel
theorem dMO_answer_21 : decode cMO_answer 21 = .ok (.iconst 1, 1) := by decide +kernel
theorem dMO_answer_22 : decode cMO_answer 22 = .ok (.ireturn, 1) := by decide +kernel
theorem dMO_isPart_0 : decode cMO_isPart 0 = .ok (.iload_n 0, 1) := by decide +kernel
theorem dMO_isPart_1 : decode cMO_isPart 1 = .ok (.ifCond .lt 13, 3) := by decide +kernel
theorem dMO_isPart_4 : decode cMO_isPart 4 = .ok (.iload_n 0, 1) := by decide +kernel
theorem dMO_isPart_5 : decode cMO_isPart 5 = .ok (.bipush 12, 2) := by decide +kernel
theorem dMO_isPart_7 : decode cMO_isPart 7 = .ok (.if_icmp .ge 7, 3) := by decide +kernel
theorem dMO_isPart_10 : decode cMO_isPart 10 = .ok (.iconst 1, 1) := by decide +kernel
theorem dMO_isPart_11 : decode cMO_isPart 11 = .ok (.goto 4, 3) := by decide +kernel
theorem dMO_isPart_14 : decode cMO_isPart 14 = .ok (.iconst 0, 1) := by decide +kernel
theorem dMO_isPart_15 : decode cMO_isPart 15 = .ok (.ireturn, 1) := by decide +kernel
theorem dMO_fails_0 : decode cMO_fails 0 = .ok (.aload_n 0, 1) := by decide +kernel
theorem dMO_fails_1 : decode cMO_fails 1 = .ok (.iconst 0, 1) := by decide +kernel
theorem dMO_fails_2 : decode cMO_fails 2 = .ok (.putfield 44, 3) := by decide +kernel
theorem dMO_fails_5 : decode cMO_fails 5 = .ok (.iload_n 1, 1) := by decide +kernel
theorem dMO_fails_6 : decode cMO_fails 6 = .ok (.invokestatic 66, 3) := by decide +kernel
theorem dMO_fails_9 : decode cMO_fails 9 = .ok (.ifCond .eq 15, 3) := by decide +kernel
theorem dMO_fails_12 : decode cMO_fails 12 = .ok (.iload_n 2, 1) := by decide +kernel
theorem dMO_fails_13 : decode cMO_fails 13 = .ok (.i2l, 1) := by decide +kernel
theorem dMO_fails_14 : decode cMO_fails 14 = .ok (.lconst 0, 1) := by decide +kernel
theorem dMO_fails_15 : decode cMO_fails 15 = .ok (.ldc2_w 70, 3) := by decide +kernel
theorem dMO_fails_18 : decode cMO_fails 18 = .ok (.invokestatic 52, 3) := by decide +kernel
theorem dMO_fails_21 : decode cMO_fails 21 = .ok (.ifCond .ne 5, 3) := by decide +kernel
theorem dMO_fails_24 : decode cMO_fails 24 = .ok (.iconst 0, 1) := by decide +kernel
theorem dMO_fails_25 : decode cMO_fails 25 = .ok (.ireturn, 1) := by decide +kernel
theorem dMO_fails_26 : decode cMO_fails 26 = .ok (.aload_n 0, 1) := by decide +kernel
theorem dMO_fails_27 : decode cMO_fails 27 = .ok (.getfield 21, 3) := by decide +kernel
theorem dMO_fails_30 : decode cMO_fails 30 = .ok (.iload_n 1, 1) := by decide +kernel
theorem dMO_fails_31 : decode cMO_fails 31 = .ok (.iload_n 2, 1) := by decide +kernel
theorem dMO_fails_32 : decode cMO_fails 32 = .ok (.iastore, 1) := by decide +kernel
theorem dMO_fails_33 : decode cMO_fails 33 = .ok (.aload_n 0, 1) := by decide +kernel
theorem dMO_fails_34 : decode cMO_fails 34 = .ok (.getfield 21, 3) := by decide +kernel
theorem dMO_fails_37 : decode cMO_fails 37 = .ok (.bipush 12, 2) := by decide +kernel
theorem dMO_fails_39 : decode cMO_fails 39 = .ok (.iload_n 1, 1) := by decide +kernel
theorem dMO_fails_40 : decode cMO_fails 40 = .ok (.iadd, 1) := by decide +kernel
theorem dMO_fails_41 : decode cMO_fails 41 = .ok (.iload_n 2, 1) := by decide +kernel
theorem dMO_fails_42 : decode cMO_fails 42 = .ok (.iastore, 1) := by decide +kernel
theorem dMO_fails_43 : decode cMO_fails 43 = .ok (.iconst 1, 1) := by decide +kernel
theorem dMO_fails_44 : decode cMO_fails 44 = .ok (.ireturn, 1) := by decide +kernel
theorem dMO_make_0 : decode cMO_make 0 = .ok (.iload_n 1, 1) := by decide +kernel
theorem dMO_make_1 : decode cMO_make 1 = .ok (.invokestatic 72, 3) := by decide +kernel
theorem dMO_make_4 : decode cMO_make 4 = .ok (.ifCond .ne 9, 3) := by decide +kernel
theorem dMO_make_7 : decode cMO_make 7 = .ok (.aload_n 0, 1) := by decide +kernel
theorem dMO_make_8 : decode cMO_make 8 = .ok (.iconst 1, 1) := by decide +kernel
theorem dMO_make_9 : decode cMO_make 9 = .ok (.invokevirtual 75, 3) := by decide +kernel
theorem dMO_make_12 : decode cMO_make 12 = .ok (.ireturn, 1) := by decide +kernel
theorem dMO_make_13 : decode cMO_make 13 = .ok (.aload_n 0, 1) := by decide +kernel
theorem dMO_make_14 : decode cMO_make 14 = .ok (.getfield 7, 3) := by decide +kernel
theorem dMO_make_17 : decode cMO_make 17 = .ok (.iload_n 1, 1) := by decide +kernel
theorem dMO_make_18 : decode cMO_make 18 = .ok (.iaload, 1) := by decide +kernel
theorem dMO_make_19 : decode cMO_make 19 = .ok (.bipush 40, 2) := by decide +kernel
theorem dMO_make_21 : decode cMO_make 21 = .ok (.if_icmp .ne 9, 3) := by decide +kernel
theorem dMO_make_24 : decode cMO_make 24 = .ok (.aload_n 0, 1) := by decide +kernel
theorem dMO_make_25 : decode cMO_make 25 = .ok (.iconst 2, 1) := by decide +kernel
theorem dMO_make_26 : decode cMO_make 26 = .ok (.invokevirtual 75, 3) := by decide +kernel
theorem dMO_make_29 : decode cMO_make 29 = .ok (.ireturn, 1) := by decide +kernel
theorem dMO_make_30 : decode cMO_make 30 = .ok (.aload_n 0, 1) := by decide +kernel
theorem dMO_make_31 : decode cMO_make 31 = .ok (.iconst 0, 1) := by decide +kernel
theorem dMO_make_32 : decode cMO_make 32 = .ok (.putfield 44, 3) := by decide +kernel
theorem dMO_make_35 : decode cMO_make 35 = .ok (.aload_n 0, 1) := by decide +kernel
theorem dMO_make_36 : decode cMO_make 36 = .ok (.getfield 7, 3) := by decide +kernel
theorem dMO_make_39 : decode cMO_make 39 = .ok (.iload_n 1, 1) := by decide +kernel
theorem dMO_make_40 : decode cMO_make 40 = .ok (.dup2, 1) := by decide +kernel
theorem dMO_make_41 : decode cMO_make 41 = .ok (.iaload, 1) := by decide +kernel
theorem dMO_make_42 : decode cMO_make 42 = .ok (.iconst 1, 1) := by decide +kernel
theorem dMO_make_43 : decode cMO_make 43 = .ok (.iadd, 1) := by decide +kernel
theorem dMO_make_44 : decode cMO_make 44 = .ok (.iastore, 1) := by decide +kernel
theorem dMO_make_45 : decode cMO_make 45 = .ok (.aload_n 0, 1) := by decide +kernel
theorem dMO_make_46 : decode cMO_make 46 = .ok (.getfield 7, 3) := by decide +kernel
theorem dMO_make_49 : decode cMO_make 49 = .ok (.iload_n 1, 1) := by decide +kernel
theorem dMO_make_50 : decode cMO_make 50 = .ok (.iaload, 1) := by decide +kernel
theorem dMO_make_51 : decode cMO_make 51 = .ok (.ireturn, 1) := by decide +kernel
theorem dMO_isKind_0 : decode cMO_isKind 0 = .ok (.iload_n 0, 1) := by decide +kernel
theorem dMO_isKind_1 : decode cMO_isKind 1 = .ok (.ifCond .lt 13, 3) := by decide +kernel
theorem dMO_isKind_4 : decode cMO_isKind 4 = .ok (.iload_n 0, 1) := by decide +kernel
theorem dMO_isKind_5 : decode cMO_isKind 5 = .ok (.bipush 8, 2) := by decide +kernel
theorem dMO_isKind_7 : decode cMO_isKind 7 = .ok (.if_icmp .ge 7, 3) := by decide +kernel
theorem dMO_isKind_10 : decode cMO_isKind 10 = .ok (.iconst 1, 1) := by decide +kernel
theorem dMO_isKind_11 : decode cMO_isKind 11 = .ok (.goto 4, 3) := by decide +kernel
theorem dMO_isKind_14 : decode cMO_isKind 14 = .ok (.iconst 0, 1) := by decide +kernel
theorem dMO_isKind_15 : decode cMO_isKind 15 = .ok (.ireturn, 1) := by decide +kernel
theorem dMO_refuse_0 : decode cMO_refuse 0 = .ok (.aload_n 0, 1) := by decide +kernel
theorem dMO_refuse_1 : decode cMO_refuse 1 = .ok (.iload_n 1, 1) := by decide +kernel
theorem dMO_refuse_2 : decode cMO_refuse 2 = .ok (.putfield 44, 3) := by decide +kernel
theorem dMO_refuse_5 : decode cMO_refuse 5 = .ok (.iconst 0, 1) := by decide +kernel
theorem dMO_refuse_6 : decode cMO_refuse 6 = .ok (.ireturn, 1) := by decide +kernel
theorem dMO_drop_0 : decode cMO_drop 0 = .ok (.aload_n 0, 1) := by decide +kernel
theorem dMO_drop_1 : decode cMO_drop 1 = .ok (.iconst 0, 1) := by decide +kernel
theorem dMO_drop_2 : decode cMO_drop 2 = .ok (.putfield 44, 3) := by decide +kernel
theorem dMO_drop_5 : decode cMO_drop 5 = .ok (.iload_n 1, 1) := by decide +kernel
theorem dMO_drop_6 : decode cMO_drop 6 = .ok (.invokestatic 72, 3) := by decide +kernel
theorem dMO_drop_9 : decode cMO_drop 9 = .ok (.ifCond .eq 12, 3) := by decide +kernel
theorem dMO_drop_12 : decode cMO_drop 12 = .ok (.aload_n 0, 1) := by decide +kernel
theorem dMO_drop_13 : decode cMO_drop 13 = .ok (.iload_n 1, 1) := by decide +kernel
theorem dMO_drop_14 : decode cMO_drop 14 = .ok (.iload_n 2, 1) := by decide +kernel
theorem dMO_drop_15 : decode cMO_drop 15 = .ok (.invokevirtual 79, 3) := by decide +kernel
theorem dMO_drop_18 : decode cMO_drop 18 = .ok (.ifCond .ne 5, 3) := by decide +kernel
theorem dMO_drop_21 : decode cMO_drop 21 = .ok (.iconst 0, 1) := by decide +kernel
theorem dMO_drop_22 : decode cMO_drop 22 = .ok (.ireturn, 1) := by decide +kernel
theorem dMO_drop_23 : decode cMO_drop 23 = .ok (.aload_n 0, 1) := by decide +kernel
theorem dMO_drop_24 : decode cMO_drop 24 = .ok (.getfield 13, 3) := by decide +kernel
theorem dMO_drop_27 : decode cMO_drop 27 = .ok (.bipush 40, 2) := by decide +kernel
theorem dMO_drop_29 : decode cMO_drop 29 = .ok (.iload_n 1, 1) := by decide +kernel
theorem dMO_drop_30 : decode cMO_drop 30 = .ok (.imul, 1) := by decide +kernel
theorem dMO_drop_31 : decode cMO_drop 31 = .ok (.iload_n 2, 1) := by decide +kernel
theorem dMO_drop_32 : decode cMO_drop 32 = .ok (.iadd, 1) := by decide +kernel
theorem dMO_drop_33 : decode cMO_drop 33 = .ok (.iconst 1, 1) := by decide +kernel
theorem dMO_drop_34 : decode cMO_drop 34 = .ok (.isub, 1) := by decide +kernel
theorem dMO_drop_35 : decode cMO_drop 35 = .ok (.iconst 1, 1) := by decide +kernel
theorem dMO_drop_36 : decode cMO_drop 36 = .ok (.bastore, 1) := by decide +kernel
theorem dMO_drop_37 : decode cMO_drop 37 = .ok (.iconst 1, 1) := by decide +kernel
theorem dMO_drop_38 : decode cMO_drop 38 = .ok (.ireturn, 1) := by decide +kernel
theorem dMO_isKnown_0 : decode cMO_isKnown 0 = .ok (.iload_n 2, 1) := by decide +kernel
theorem dMO_isKnown_1 : decode cMO_isKnown 1 = .ok (.iconst 1, 1) := by decide +kernel
theorem dMO_isKnown_2 : decode cMO_isKnown 2 = .ok (.if_icmp .lt 52, 3) := by decide +kernel
theorem dMO_isKnown_5 : decode cMO_isKnown 5 = .ok (.iload_n 2, 1) := by decide +kernel
theorem dMO_isKnown_6 : decode cMO_isKnown 6 = .ok (.aload_n 0, 1) := by decide +kernel
theorem dMO_isKnown_7 : decode cMO_isKnown 7 = .ok (.getfield 7, 3) := by decide +kernel
theorem dMO_isKnown_10 : decode cMO_isKnown 10 = .ok (.iload_n 1, 1) := by decide +kernel
theorem dMO_isKnown_11 : decode cMO_isKnown 11 = .ok (.iaload, 1) := by decide +kernel
theorem dMO_isKnown_12 : decode cMO_isKnown 12 = .ok (.if_icmp .gt 42, 3) := by decide +kernel
theorem dMO_isKnown_15 : decode cMO_isKnown 15 = .ok (.aload_n 0, 1) := by decide +kernel
theorem dMO_isKnown_16 : decode cMO_isKnown 16 = .ok (.getfield 13, 3) := by decide +kernel
theorem dMO_isKnown_19 : decode cMO_isKnown 19 = .ok (.bipush 40, 2) := by decide +kernel
theorem dMO_isKnown_21 : decode cMO_isKnown 21 = .ok (.iload_n 1, 1) := by decide +kernel
theorem dMO_isKnown_22 : decode cMO_isKnown 22 = .ok (.imul, 1) := by decide +kernel
theorem dMO_isKnown_23 : decode cMO_isKnown 23 = .ok (.iload_n 2, 1) := by decide +kernel
theorem dMO_isKnown_24 : decode cMO_isKnown 24 = .ok (.iconst 1, 1) := by decide +kernel
theorem dMO_isKnown_25 : decode cMO_isKnown 25 = .ok (.if_icmp .lt 17, 3) := by decide +kernel
theorem dMO_isKnown_28 : decode cMO_isKnown 28 = .ok (.iload_n 2, 1) := by decide +kernel
theorem dMO_isKnown_29 : decode cMO_isKnown 29 = .ok (.aload_n 0, 1) := by decide +kernel
theorem dMO_isKnown_30 : decode cMO_isKnown 30 = .ok (.getfield 7, 3) := by decide +kernel
theorem dMO_isKnown_33 : decode cMO_isKnown 33 = .ok (.iload_n 1, 1) := by decide +kernel
theorem dMO_isKnown_34 : decode cMO_isKnown 34 = .ok (.iaload, 1) := by decide +kernel
theorem dMO_isKnown_35 : decode cMO_isKnown 35 = .ok (.if_icmp .gt 7, 3) := by decide +kernel
theorem dMO_isKnown_38 : decode cMO_isKnown 38 = .ok (.iload_n 2, 1) := by decide +kernel
theorem dMO_isKnown_39 : decode cMO_isKnown 39 = .ok (.goto 4, 3) := by decide +kernel
theorem dMO_isKnown_42 : decode cMO_isKnown 42 = .ok (.iconst 1, 1) := by decide +kernel
theorem dMO_isKnown_43 : decode cMO_isKnown 43 = .ok (.iadd, 1) := by decide +kernel
theorem dMO_isKnown_44 : decode cMO_isKnown 44 = .ok (.iconst 1, 1) := by decide +kernel
theorem dMO_isKnown_45 : decode cMO_isKnown 45 = .ok (.isub, 1) := by decide +kernel
theorem dMO_isKnown_46 : decode cMO_isKnown 46 = .ok (.baload, 1) := by decide +kernel
theorem dMO_isKnown_47 : decode cMO_isKnown 47 = .ok (.ifCond .ne 7, 3) := by decide +kernel
theorem dMO_isKnown_50 : decode cMO_isKnown 50 = .ok (.iconst 1, 1) := by decide +kernel
theorem dMO_isKnown_51 : decode cMO_isKnown 51 = .ok (.goto 4, 3) := by decide +kernel
theorem dMO_isKnown_54 : decode cMO_isKnown 54 = .ok (.iconst 0, 1) := by decide +kernel
theorem dMO_isKnown_55 : decode cMO_isKnown 55 = .ok (.ireturn, 1) := by decide +kernel
theorem dMO_call_0 : decode cMO_call 0 = .ok (.aload_n 0, 1) := by decide +kernel
theorem dMO_call_1 : decode cMO_call 1 = .ok (.iconst 0, 1) := by decide +kernel
theorem dMO_call_2 : decode cMO_call 2 = .ok (.putfield 44, 3) := by decide +kernel
theorem dMO_call_5 : decode cMO_call 5 = .ok (.aload_n 0, 1) := by decide +kernel
theorem dMO_call_6 : decode cMO_call 6 = .ok (.iconst 1, 1) := by decide +kernel
theorem dMO_call_7 : decode cMO_call 7 = .ok (.iload_n 1, 1) := by decide +kernel
theorem dMO_call_8 : decode cMO_call 8 = .ok (.iload_n 2, 1) := by decide +kernel
theorem dMO_call_9 : decode cMO_call 9 = .ok (.lload_n 3, 1) := by decide +kernel
theorem dMO_call_10 : decode cMO_call 10 = .ok (.invokevirtual 93, 3) := by decide +kernel
theorem dMO_call_13 : decode cMO_call 13 = .ok (.lstore 5, 2) := by decide +kernel
theorem dMO_call_15 : decode cMO_call 15 = .ok (.aload_n 0, 1) := by decide +kernel
theorem dMO_call_16 : decode cMO_call 16 = .ok (.iconst 0, 1) := by decide +kernel
theorem dMO_call_17 : decode cMO_call 17 = .ok (.iload_n 1, 1) := by decide +kernel
theorem dMO_call_18 : decode cMO_call 18 = .ok (.iload_n 2, 1) := by decide +kernel
theorem dMO_call_19 : decode cMO_call 19 = .ok (.lload_n 3, 1) := by decide +kernel
theorem dMO_call_20 : decode cMO_call 20 = .ok (.invokevirtual 93, 3) := by decide +kernel
theorem dMO_call_23 : decode cMO_call 23 = .ok (.lstore 7, 2) := by decide +kernel
theorem dMO_call_25 : decode cMO_call 25 = .ok (.lload 7, 2) := by decide +kernel
theorem dMO_call_27 : decode cMO_call 27 = .ok (.lload 5, 2) := by decide +kernel
theorem dMO_call_29 : decode cMO_call 29 = .ok (.lcmp, 1) := by decide +kernel
theorem dMO_call_30 : decode cMO_call 30 = .ok (.ifCond .ne 8, 3) := by decide +kernel
theorem dMO_call_33 : decode cMO_call 33 = .ok (.lload 5, 2) := by decide +kernel
theorem dMO_call_35 : decode cMO_call 35 = .ok (.goto 5, 3) := by decide +kernel
theorem dMO_call_38 : decode cMO_call 38 = .ok (.lload 7, 2) := by decide +kernel
theorem dMO_call_40 : decode cMO_call 40 = .ok (.lreturn, 1) := by decide +kernel
theorem dMO_goes_0 : decode cMO_goes 0 = .ok (.iload_n 2, 1) := by decide +kernel
theorem dMO_goes_1 : decode cMO_goes 1 = .ok (.invokestatic 66, 3) := by decide +kernel
theorem dMO_goes_4 : decode cMO_goes 4 = .ok (.ifCond .ne 13, 3) := by decide +kernel
theorem dMO_goes_7 : decode cMO_goes 7 = .ok (.aload_n 0, 1) := by decide +kernel
theorem dMO_goes_8 : decode cMO_goes 8 = .ok (.iload_n 1, 1) := by decide +kernel
theorem dMO_goes_9 : decode cMO_goes 9 = .ok (.ldc2_w 42, 3) := by decide +kernel
theorem dMO_goes_12 : decode cMO_goes 12 = .ok (.iconst 1, 1) := by decide +kernel
theorem dMO_goes_13 : decode cMO_goes 13 = .ok (.invokevirtual 83, 3) := by decide +kernel
theorem dMO_goes_16 : decode cMO_goes 16 = .ok (.lreturn, 1) := by decide +kernel
theorem dMO_goes_17 : decode cMO_goes 17 = .ok (.iload_n 2, 1) := by decide +kernel
theorem dMO_goes_18 : decode cMO_goes 18 = .ok (.bipush 8, 2) := by decide +kernel
theorem dMO_goes_20 : decode cMO_goes 20 = .ok (.irem, 1) := by decide +kernel
theorem dMO_goes_21 : decode cMO_goes 21 = .ok (.istore 6, 2) := by decide +kernel
theorem dMO_goes_23 : decode cMO_goes 23 = .ok (.aload_n 0, 1) := by decide +kernel
theorem dMO_goes_24 : decode cMO_goes 24 = .ok (.iload 6, 2) := by decide +kernel
theorem dMO_goes_26 : decode cMO_goes 26 = .ok (.iload_n 3, 1) := by decide +kernel
theorem dMO_goes_27 : decode cMO_goes 27 = .ok (.invokevirtual 79, 3) := by decide +kernel
theorem dMO_goes_30 : decode cMO_goes 30 = .ok (.ifCond .ne 41, 3) := by decide +kernel
theorem dMO_goes_33 : decode cMO_goes 33 = .ok (.iload_n 3, 1) := by decide +kernel
theorem dMO_goes_34 : decode cMO_goes 34 = .ok (.iconst 1, 1) := by decide +kernel
theorem dMO_goes_35 : decode cMO_goes 35 = .ok (.if_icmp .lt 14, 3) := by decide +kernel
theorem dMO_goes_38 : decode cMO_goes 38 = .ok (.iload_n 3, 1) := by decide +kernel
theorem dMO_goes_39 : decode cMO_goes 39 = .ok (.aload_n 0, 1) := by decide +kernel
theorem dMO_goes_40 : decode cMO_goes 40 = .ok (.getfield 7, 3) := by decide +kernel
theorem dMO_goes_43 : decode cMO_goes 43 = .ok (.iload 6, 2) := by decide +kernel
theorem dMO_goes_45 : decode cMO_goes 45 = .ok (.iaload, 1) := by decide +kernel
theorem dMO_goes_46 : decode cMO_goes 46 = .ok (.if_icmp .le 15, 3) := by decide +kernel
theorem dMO_goes_49 : decode cMO_goes 49 = .ok (.aload_n 0, 1) := by decide +kernel
theorem dMO_goes_50 : decode cMO_goes 50 = .ok (.iload_n 1, 1) := by decide +kernel
theorem dMO_goes_51 : decode cMO_goes 51 = .ok (.ldc2_w 87, 3) := by decide +kernel
theorem dMO_goes_54 : decode cMO_goes 54 = .ok (.iconst 2, 1) := by decide +kernel
theorem dMO_goes_55 : decode cMO_goes 55 = .ok (.invokevirtual 83, 3) := by decide +kernel
theorem dMO_goes_58 : decode cMO_goes 58 = .ok (.goto 12, 3) := by decide +kernel
theorem dMO_goes_61 : decode cMO_goes 61 = .ok (.aload_n 0, 1) := by decide +kernel
theorem dMO_goes_62 : decode cMO_goes 62 = .ok (.iload_n 1, 1) := by decide +kernel
theorem dMO_goes_63 : decode cMO_goes 63 = .ok (.ldc2_w 89, 3) := by decide +kernel
theorem dMO_goes_66 : decode cMO_goes 66 = .ok (.iconst 3, 1) := by decide +kernel
theorem dMO_goes_67 : decode cMO_goes 67 = .ok (.invokevirtual 83, 3) := by decide +kernel
theorem dMO_goes_70 : decode cMO_goes 70 = .ok (.lreturn, 1) := by decide +kernel
theorem dMO_goes_71 : decode cMO_goes 71 = .ok (.bipush 12, 2) := by decide +kernel
theorem dMO_goes_73 : decode cMO_goes 73 = .ok (.iload_n 1, 1) := by decide +kernel
theorem dMO_goes_74 : decode cMO_goes 74 = .ok (.imul, 1) := by decide +kernel
theorem dMO_goes_75 : decode cMO_goes 75 = .ok (.iload_n 2, 1) := by decide +kernel
theorem dMO_goes_76 : decode cMO_goes 76 = .ok (.iadd, 1) := by decide +kernel
theorem dMO_goes_77 : decode cMO_goes 77 = .ok (.istore 7, 2) := by decide +kernel
theorem dMO_goes_79 : decode cMO_goes 79 = .ok (.aload_n 0, 1) := by decide +kernel
theorem dMO_goes_80 : decode cMO_goes 80 = .ok (.getfield 21, 3) := by decide +kernel
theorem dMO_goes_83 : decode cMO_goes 83 = .ok (.iload 7, 2) := by decide +kernel
theorem dMO_goes_85 : decode cMO_goes 85 = .ok (.iaload, 1) := by decide +kernel
theorem dMO_goes_86 : decode cMO_goes 86 = .ok (.istore 8, 2) := by decide +kernel
theorem dMO_goes_88 : decode cMO_goes 88 = .ok (.iload 8, 2) := by decide +kernel
theorem dMO_goes_90 : decode cMO_goes 90 = .ok (.ifCond .le 67, 3) := by decide +kernel
theorem dMO_goes_93 : decode cMO_goes 93 = .ok (.aload_n 0, 1) := by decide +kernel
theorem dMO_goes_94 : decode cMO_goes 94 = .ok (.getfield 21, 3) := by decide +kernel
theorem dMO_goes_97 : decode cMO_goes 97 = .ok (.iload 7, 2) := by decide +kernel
theorem dMO_goes_99 : decode cMO_goes 99 = .ok (.iconst 0, 1) := by decide +kernel
theorem dMO_goes_100 : decode cMO_goes 100 = .ok (.iastore, 1) := by decide +kernel
theorem dMO_goes_101 : decode cMO_goes 101 = .ok (.aload_n 0, 1) := by decide +kernel
theorem dMO_goes_102 : decode cMO_goes 102 = .ok (.getfield 33, 3) := by decide +kernel
theorem dMO_goes_105 : decode cMO_goes 105 = .ok (.bipush 8, 2) := by decide +kernel
theorem dMO_goes_107 : decode cMO_goes 107 = .ok (.iload_n 1, 1) := by decide +kernel
theorem dMO_goes_108 : decode cMO_goes 108 = .ok (.imul, 1) := by decide +kernel
theorem dMO_goes_109 : decode cMO_goes 109 = .ok (.iconst 5, 1) := by decide +kernel
theorem dMO_goes_110 : decode cMO_goes 110 = .ok (.iadd, 1) := by decide +kernel
theorem dMO_goes_111 : decode cMO_goes 111 = .ok (.iload 8, 2) := by decide +kernel
theorem dMO_goes_113 : decode cMO_goes 113 = .ok (.i2l, 1) := by decide +kernel
theorem dMO_goes_114 : decode cMO_goes 114 = .ok (.lastore, 1) := by decide +kernel
theorem dMO_goes_115 : decode cMO_goes 115 = .ok (.aload_n 0, 1) := by decide +kernel
theorem dMO_goes_116 : decode cMO_goes 116 = .ok (.getfield 33, 3) := by decide +kernel
theorem dMO_goes_119 : decode cMO_goes 119 = .ok (.bipush 8, 2) := by decide +kernel
theorem dMO_goes_121 : decode cMO_goes 121 = .ok (.iload_n 1, 1) := by decide +kernel
theorem dMO_goes_122 : decode cMO_goes 122 = .ok (.imul, 1) := by decide +kernel
theorem dMO_goes_123 : decode cMO_goes 123 = .ok (.bipush 6, 2) := by decide +kernel
theorem dMO_goes_125 : decode cMO_goes 125 = .ok (.iadd, 1) := by decide +kernel
theorem dMO_goes_126 : decode cMO_goes 126 = .ok (.iload_n 2, 1) := by decide +kernel
theorem dMO_goes_127 : decode cMO_goes 127 = .ok (.i2l, 1) := by decide +kernel
theorem dMO_goes_128 : decode cMO_goes 128 = .ok (.lastore, 1) := by decide +kernel
theorem dMO_goes_129 : decode cMO_goes 129 = .ok (.aload_n 0, 1) := by decide +kernel
theorem dMO_goes_130 : decode cMO_goes 130 = .ok (.getfield 33, 3) := by decide +kernel
theorem dMO_goes_133 : decode cMO_goes 133 = .ok (.bipush 8, 2) := by decide +kernel
theorem dMO_goes_135 : decode cMO_goes 135 = .ok (.iload_n 1, 1) := by decide +kernel
theorem dMO_goes_136 : decode cMO_goes 136 = .ok (.imul, 1) := by decide +kernel
theorem dMO_goes_137 : decode cMO_goes 137 = .ok (.bipush 7, 2) := by decide +kernel
theorem dMO_goes_139 : decode cMO_goes 139 = .ok (.iadd, 1) := by decide +kernel
theorem dMO_goes_140 : decode cMO_goes 140 = .ok (.iload_n 3, 1) := by decide +kernel
theorem dMO_goes_141 : decode cMO_goes 141 = .ok (.i2l, 1) := by decide +kernel
theorem dMO_goes_142 : decode cMO_goes 142 = .ok (.lastore, 1) := by decide +kernel
theorem dMO_goes_143 : decode cMO_goes 143 = .ok (.aload_n 0, 1) := by decide +kernel
theorem dMO_goes_144 : decode cMO_goes 144 = .ok (.iload_n 1, 1) := by decide +kernel
theorem dMO_goes_145 : decode cMO_goes 145 = .ok (.ldc2_w 91, 3) := by decide +kernel
theorem dMO_goes_148 : decode cMO_goes 148 = .ok (.iload 8, 2) := by decide +kernel
theorem dMO_goes_150 : decode cMO_goes 150 = .ok (.i2l, 1) := by decide +kernel
theorem dMO_goes_151 : decode cMO_goes 151 = .ok (.lsub, 1) := by decide +kernel
theorem dMO_goes_152 : decode cMO_goes 152 = .ok (.iconst 4, 1) := by decide +kernel
theorem dMO_goes_153 : decode cMO_goes 153 = .ok (.invokevirtual 83, 3) := by decide +kernel
theorem dMO_goes_156 : decode cMO_goes 156 = .ok (.lreturn, 1) := by decide +kernel
theorem dMO_goes_157 : decode cMO_goes 157 = .ok (.aload_n 0, 1) := by decide +kernel
theorem dMO_goes_158 : decode cMO_goes 158 = .ok (.getfield 24, 3) := by decide +kernel
theorem dMO_goes_161 : decode cMO_goes 161 = .ok (.iload 7, 2) := by decide +kernel
theorem dMO_goes_163 : decode cMO_goes 163 = .ok (.dup2, 1) := by decide +kernel
theorem dMO_goes_164 : decode cMO_goes 164 = .ok (.laload, 1) := by decide +kernel
theorem dMO_goes_165 : decode cMO_goes 165 = .ok (.lload 4, 2) := by decide +kernel
theorem dMO_goes_167 : decode cMO_goes 167 = .ok (.ladd, 1) := by decide +kernel
theorem dMO_goes_168 : decode cMO_goes 168 = .ok (.lastore, 1) := by decide +kernel
theorem dMO_goes_169 : decode cMO_goes 169 = .ok (.aload_n 0, 1) := by decide +kernel
theorem dMO_goes_170 : decode cMO_goes 170 = .ok (.iload_n 1, 1) := by decide +kernel
theorem dMO_goes_171 : decode cMO_goes 171 = .ok (.aload_n 0, 1) := by decide +kernel
theorem dMO_goes_172 : decode cMO_goes 172 = .ok (.getfield 17, 3) := by decide +kernel
theorem dMO_goes_175 : decode cMO_goes 175 = .ok (.iload_n 2, 1) := by decide +kernel
theorem dMO_goes_176 : decode cMO_goes 176 = .ok (.laload, 1) := by decide +kernel
theorem dMO_goes_177 : decode cMO_goes 177 = .ok (.ldc2_w 60, 3) := by decide +kernel
theorem dMO_goes_180 : decode cMO_goes 180 = .ok (.iload_n 3, 1) := by decide +kernel
theorem dMO_goes_181 : decode cMO_goes 181 = .ok (.i2l, 1) := by decide +kernel
theorem dMO_goes_182 : decode cMO_goes 182 = .ok (.lmul, 1) := by decide +kernel
theorem dMO_goes_183 : decode cMO_goes 183 = .ok (.ladd, 1) := by decide +kernel
theorem dMO_goes_184 : decode cMO_goes 184 = .ok (.aload_n 0, 1) := by decide +kernel
theorem dMO_goes_185 : decode cMO_goes 185 = .ok (.getfield 24, 3) := by decide +kernel
theorem dMO_goes_188 : decode cMO_goes 188 = .ok (.iload 7, 2) := by decide +kernel
theorem dMO_goes_190 : decode cMO_goes 190 = .ok (.laload, 1) := by decide +kernel
theorem dMO_goes_191 : decode cMO_goes 191 = .ok (.ladd, 1) := by decide +kernel
theorem dMO_goes_192 : decode cMO_goes 192 = .ok (.iconst 0, 1) := by decide +kernel
theorem dMO_goes_193 : decode cMO_goes 193 = .ok (.invokevirtual 83, 3) := by decide +kernel
theorem dMO_goes_196 : decode cMO_goes 196 = .ok (.lreturn, 1) := by decide +kernel
theorem dMO_writes_0 : decode cMO_writes 0 = .ok (.bipush 64, 2) := by decide +kernel
theorem dMO_writes_2 : decode cMO_writes 2 = .ok (.iload_n 1, 1) := by decide +kernel
theorem dMO_writes_3 : decode cMO_writes 3 = .ok (.imul, 1) := by decide +kernel
theorem dMO_writes_4 : decode cMO_writes 4 = .ok (.istore 5, 2) := by decide +kernel
theorem dMO_writes_6 : decode cMO_writes 6 = .ok (.aload_n 0, 1) := by decide +kernel
theorem dMO_writes_7 : decode cMO_writes 7 = .ok (.getfield 27, 3) := by decide +kernel
theorem dMO_writes_10 : decode cMO_writes 10 = .ok (.iload_n 1, 1) := by decide +kernel
theorem dMO_writes_11 : decode cMO_writes 11 = .ok (.iaload, 1) := by decide +kernel
theorem dMO_writes_12 : decode cMO_writes 12 = .ok (.bipush 64, 2) := by decide +kernel
theorem dMO_writes_14 : decode cMO_writes 14 = .ok (.if_icmp .ne 51, 3) := by decide +kernel
theorem dMO_writes_17 : decode cMO_writes 17 = .ok (.iconst 1, 1) := by decide +kernel
theorem dMO_writes_18 : decode cMO_writes 18 = .ok (.istore 6, 2) := by decide +kernel
theorem dMO_writes_20 : decode cMO_writes 20 = .ok (.iload 6, 2) := by decide +kernel
theorem dMO_writes_22 : decode cMO_writes 22 = .ok (.bipush 64, 2) := by decide +kernel
theorem dMO_writes_24 : decode cMO_writes 24 = .ok (.if_icmp .ge 31, 3) := by decide +kernel
theorem dMO_writes_27 : decode cMO_writes 27 = .ok (.aload_n 0, 1) := by decide +kernel
theorem dMO_writes_28 : decode cMO_writes 28 = .ok (.getfield 30, 3) := by decide +kernel
theorem dMO_writes_31 : decode cMO_writes 31 = .ok (.iload 5, 2) := by decide +kernel
theorem dMO_writes_33 : decode cMO_writes 33 = .ok (.iload 6, 2) := by decide +kernel
theorem dMO_writes_35 : decode cMO_writes 35 = .ok (.iadd, 1) := by decide +kernel
theorem dMO_writes_36 : decode cMO_writes 36 = .ok (.iconst 1, 1) := by decide +kernel
theorem dMO_writes_37 : decode cMO_writes 37 = .ok (.isub, 1) := by decide +kernel
theorem dMO_writes_38 : decode cMO_writes 38 = .ok (.aload_n 0, 1) := by decide +kernel
theorem dMO_writes_39 : decode cMO_writes 39 = .ok (.getfield 30, 3) := by decide +kernel
theorem dMO_writes_42 : decode cMO_writes 42 = .ok (.iload 5, 2) := by decide +kernel
theorem dMO_writes_44 : decode cMO_writes 44 = .ok (.iload 6, 2) := by decide +kernel
theorem dMO_writes_46 : decode cMO_writes 46 = .ok (.iadd, 1) := by decide +kernel
theorem dMO_writes_47 : decode cMO_writes 47 = .ok (.laload, 1) := by decide +kernel
theorem dMO_writes_48 : decode cMO_writes 48 = .ok (.lastore, 1) := by decide +kernel
theorem dMO_writes_49 : decode cMO_writes 49 = .ok (.iinc 6 1, 3) := by decide +kernel
theorem dMO_writes_52 : decode cMO_writes 52 = .ok (.goto (-32), 3) := by decide +kernel
theorem dMO_writes_55 : decode cMO_writes 55 = .ok (.aload_n 0, 1) := by decide +kernel
theorem dMO_writes_56 : decode cMO_writes 56 = .ok (.getfield 27, 3) := by decide +kernel
theorem dMO_writes_59 : decode cMO_writes 59 = .ok (.iload_n 1, 1) := by decide +kernel
theorem dMO_writes_60 : decode cMO_writes 60 = .ok (.dup2, 1) := by decide +kernel
theorem dMO_writes_61 : decode cMO_writes 61 = .ok (.iaload, 1) := by decide +kernel
theorem dMO_writes_62 : decode cMO_writes 62 = .ok (.iconst 1, 1) := by decide +kernel
theorem dMO_writes_63 : decode cMO_writes 63 = .ok (.isub, 1) := by decide +kernel
theorem dMO_writes_64 : decode cMO_writes 64 = .ok (.iastore, 1) := by decide +kernel
theorem dMO_writes_65 : decode cMO_writes 65 = .ok (.aload_n 0, 1) := by decide +kernel
theorem dMO_writes_66 : decode cMO_writes 66 = .ok (.getfield 30, 3) := by decide +kernel
theorem dMO_writes_69 : decode cMO_writes 69 = .ok (.iload 5, 2) := by decide +kernel
theorem dMO_writes_71 : decode cMO_writes 71 = .ok (.aload_n 0, 1) := by decide +kernel
theorem dMO_writes_72 : decode cMO_writes 72 = .ok (.getfield 27, 3) := by decide +kernel
theorem dMO_writes_75 : decode cMO_writes 75 = .ok (.iload_n 1, 1) := by decide +kernel
theorem dMO_writes_76 : decode cMO_writes 76 = .ok (.iaload, 1) := by decide +kernel
theorem dMO_writes_77 : decode cMO_writes 77 = .ok (.iadd, 1) := by decide +kernel
theorem dMO_writes_78 : decode cMO_writes 78 = .ok (.lload_n 2, 1) := by decide +kernel
theorem dMO_writes_79 : decode cMO_writes 79 = .ok (.lastore, 1) := by decide +kernel
theorem dMO_writes_80 : decode cMO_writes 80 = .ok (.aload_n 0, 1) := by decide +kernel
theorem dMO_writes_81 : decode cMO_writes 81 = .ok (.getfield 27, 3) := by decide +kernel
theorem dMO_writes_84 : decode cMO_writes 84 = .ok (.iload_n 1, 1) := by decide +kernel
theorem dMO_writes_85 : decode cMO_writes 85 = .ok (.dup2, 1) := by decide +kernel
theorem dMO_writes_86 : decode cMO_writes 86 = .ok (.iaload, 1) := by decide +kernel
theorem dMO_writes_87 : decode cMO_writes 87 = .ok (.iconst 1, 1) := by decide +kernel
theorem dMO_writes_88 : decode cMO_writes 88 = .ok (.iadd, 1) := by decide +kernel
theorem dMO_writes_89 : decode cMO_writes 89 = .ok (.iastore, 1) := by decide +kernel
theorem dMO_writes_90 : decode cMO_writes 90 = .ok (.aload_n 0, 1) := by decide +kernel
theorem dMO_writes_91 : decode cMO_writes 91 = .ok (.getfield 33, 3) := by decide +kernel
theorem dMO_writes_94 : decode cMO_writes 94 = .ok (.bipush 8, 2) := by decide +kernel
theorem dMO_writes_96 : decode cMO_writes 96 = .ok (.iload_n 1, 1) := by decide +kernel
theorem dMO_writes_97 : decode cMO_writes 97 = .ok (.imul, 1) := by decide +kernel
theorem dMO_writes_98 : decode cMO_writes 98 = .ok (.iload 4, 2) := by decide +kernel
theorem dMO_writes_100 : decode cMO_writes 100 = .ok (.iadd, 1) := by decide +kernel
theorem dMO_writes_101 : decode cMO_writes 101 = .ok (.dup2, 1) := by decide +kernel
theorem dMO_writes_102 : decode cMO_writes 102 = .ok (.laload, 1) := by decide +kernel
theorem dMO_writes_103 : decode cMO_writes 103 = .ok (.lconst 1, 1) := by decide +kernel
theorem dMO_writes_104 : decode cMO_writes 104 = .ok (.ladd, 1) := by decide +kernel
theorem dMO_writes_105 : decode cMO_writes 105 = .ok (.lastore, 1) := by decide +kernel
theorem dMO_writes_106 : decode cMO_writes 106 = .ok (.lload_n 2, 1) := by decide +kernel
theorem dMO_writes_107 : decode cMO_writes 107 = .ok (.lreturn, 1) := by decide +kernel
theorem dMO_again_0 : decode cMO_again 0 = .ok (.aload_n 0, 1) := by decide +kernel
theorem dMO_again_1 : decode cMO_again 1 = .ok (.iconst 0, 1) := by decide +kernel
theorem dMO_again_2 : decode cMO_again 2 = .ok (.putfield 44, 3) := by decide +kernel
theorem dMO_again_5 : decode cMO_again 5 = .ok (.aload_n 0, 1) := by decide +kernel
theorem dMO_again_6 : decode cMO_again 6 = .ok (.iconst 1, 1) := by decide +kernel
theorem dMO_again_7 : decode cMO_again 7 = .ok (.iload_n 1, 1) := by decide +kernel
theorem dMO_again_8 : decode cMO_again 8 = .ok (.iload_n 2, 1) := by decide +kernel
theorem dMO_again_9 : decode cMO_again 9 = .ok (.lload_n 3, 1) := by decide +kernel
theorem dMO_again_10 : decode cMO_again 10 = .ok (.invokevirtual 93, 3) := by decide +kernel
theorem dMO_again_13 : decode cMO_again 13 = .ok (.lreturn, 1) := by decide +kernel
theorem dMO_told_0 : decode cMO_told 0 = .ok (.aload_n 0, 1) := by decide +kernel
theorem dMO_told_1 : decode cMO_told 1 = .ok (.iload_n 1, 1) := by decide +kernel
theorem dMO_told_2 : decode cMO_told 2 = .ok (.i2l, 1) := by decide +kernel
theorem dMO_told_3 : decode cMO_told 3 = .ok (.lconst 0, 1) := by decide +kernel
theorem dMO_told_4 : decode cMO_told 4 = .ok (.ldc2_w 58, 3) := by decide +kernel
theorem dMO_told_7 : decode cMO_told 7 = .ok (.invokestatic 52, 3) := by decide +kernel
theorem dMO_told_10 : decode cMO_told 10 = .ok (.ifCond .eq 7, 3) := by decide +kernel
theorem dMO_told_13 : decode cMO_told 13 = .ok (.iconst 0, 1) := by decide +kernel
theorem dMO_told_14 : decode cMO_told 14 = .ok (.goto 4, 3) := by decide +kernel
theorem dMO_told_17 : decode cMO_told 17 = .ok (.iconst 1, 1) := by decide +kernel
theorem dMO_told_18 : decode cMO_told 18 = .ok (.putfield 44, 3) := by decide +kernel
theorem dMO_told_21 : decode cMO_told 21 = .ok (.aload_n 0, 1) := by decide +kernel
theorem dMO_told_22 : decode cMO_told 22 = .ok (.getfield 44, 3) := by decide +kernel
theorem dMO_told_25 : decode cMO_told 25 = .ok (.ifCond .le 7, 3) := by decide +kernel
theorem dMO_told_28 : decode cMO_told 28 = .ok (.lconst 0, 1) := by decide +kernel
theorem dMO_told_29 : decode cMO_told 29 = .ok (.goto 9, 3) := by decide +kernel
theorem dMO_told_32 : decode cMO_told 32 = .ok (.aload_n 0, 1) := by decide +kernel
theorem dMO_told_33 : decode cMO_told 33 = .ok (.getfield 33, 3) := by decide +kernel
theorem dMO_told_36 : decode cMO_told 36 = .ok (.iload_n 1, 1) := by decide +kernel
theorem dMO_told_37 : decode cMO_told 37 = .ok (.laload, 1) := by decide +kernel
theorem dMO_told_38 : decode cMO_told 38 = .ok (.lreturn, 1) := by decide +kernel
theorem dMO_numbers_0 : decode cMO_numbers 0 = .ok (.aload_n 0, 1) := by decide +kernel
theorem dMO_numbers_1 : decode cMO_numbers 1 = .ok (.iconst 0, 1) := by decide +kernel
theorem dMO_numbers_2 : decode cMO_numbers 2 = .ok (.putfield 44, 3) := by decide +kernel
theorem dMO_numbers_5 : decode cMO_numbers 5 = .ok (.iconst 0, 1) := by decide +kernel
theorem dMO_numbers_6 : decode cMO_numbers 6 = .ok (.istore_n 2, 1) := by decide +kernel
theorem dMO_numbers_7 : decode cMO_numbers 7 = .ok (.iconst 1, 1) := by decide +kernel
theorem dMO_numbers_8 : decode cMO_numbers 8 = .ok (.istore_n 3, 1) := by decide +kernel
theorem dMO_numbers_9 : decode cMO_numbers 9 = .ok (.iload_n 1, 1) := by decide +kernel
theorem dMO_numbers_10 : decode cMO_numbers 10 = .ok (.invokestatic 72, 3) := by decide +kernel
theorem dMO_numbers_13 : decode cMO_numbers 13 = .ok (.ifCond .eq 36, 3) := by decide +kernel
theorem dMO_numbers_16 : decode cMO_numbers 16 = .ok (.iload_n 3, 1) := by decide +kernel
theorem dMO_numbers_17 : decode cMO_numbers 17 = .ok (.aload_n 0, 1) := by decide +kernel
theorem dMO_numbers_18 : decode cMO_numbers 18 = .ok (.getfield 7, 3) := by decide +kernel
theorem dMO_numbers_21 : decode cMO_numbers 21 = .ok (.iload_n 1, 1) := by decide +kernel
theorem dMO_numbers_22 : decode cMO_numbers 22 = .ok (.iaload, 1) := by decide +kernel
theorem dMO_numbers_23 : decode cMO_numbers 23 = .ok (.if_icmp .gt 26, 3) := by decide +kernel
theorem dMO_numbers_26 : decode cMO_numbers 26 = .ok (.iload_n 2, 1) := by decide +kernel
theorem dMO_numbers_27 : decode cMO_numbers 27 = .ok (.aload_n 0, 1) := by decide +kernel
theorem dMO_numbers_28 : decode cMO_numbers 28 = .ok (.iload_n 1, 1) := by decide +kernel
theorem dMO_numbers_29 : decode cMO_numbers 29 = .ok (.iload_n 3, 1) := by decide +kernel
theorem dMO_numbers_30 : decode cMO_numbers 30 = .ok (.invokevirtual 79, 3) := by decide +kernel
theorem dMO_numbers_33 : decode cMO_numbers 33 = .ok (.ifCond .eq 7, 3) := by decide +kernel
theorem dMO_numbers_36 : decode cMO_numbers 36 = .ok (.iconst 1, 1) := by decide +kernel
theorem dMO_numbers_37 : decode cMO_numbers 37 = .ok (.goto 4, 3) := by decide +kernel
theorem dMO_numbers_40 : decode cMO_numbers 40 = .ok (.iconst 0, 1) := by decide +kernel
theorem dMO_numbers_41 : decode cMO_numbers 41 = .ok (.iadd, 1) := by decide +kernel
theorem dMO_numbers_42 : decode cMO_numbers 42 = .ok (.istore_n 2, 1) := by decide +kernel
theorem dMO_numbers_43 : decode cMO_numbers 43 = .ok (.iinc 3 1, 3) := by decide +kernel
theorem dMO_numbers_46 : decode cMO_numbers 46 = .ok (.goto (-37), 3) := by decide +kernel
theorem dMO_numbers_49 : decode cMO_numbers 49 = .ok (.iload_n 1, 1) := by decide +kernel
theorem dMO_numbers_50 : decode cMO_numbers 50 = .ok (.invokestatic 72, 3) := by decide +kernel
theorem dMO_numbers_53 : decode cMO_numbers 53 = .ok (.ifCond .eq 7, 3) := by decide +kernel
theorem dMO_numbers_56 : decode cMO_numbers 56 = .ok (.iload_n 2, 1) := by decide +kernel
theorem dMO_numbers_57 : decode cMO_numbers 57 = .ok (.goto 4, 3) := by decide +kernel
theorem dMO_numbers_60 : decode cMO_numbers 60 = .ok (.iconst (-1), 1) := by decide +kernel
theorem dMO_numbers_61 : decode cMO_numbers 61 = .ok (.ireturn, 1) := by decide +kernel
theorem dMO_number_0 : decode cMO_number 0 = .ok (.iload_n 1, 1) := by decide +kernel
theorem dMO_number_1 : decode cMO_number 1 = .ok (.invokestatic 72, 3) := by decide +kernel
theorem dMO_number_4 : decode cMO_number 4 = .ok (.ifCond .ne 9, 3) := by decide +kernel
theorem dMO_number_7 : decode cMO_number 7 = .ok (.aload_n 0, 1) := by decide +kernel
theorem dMO_number_8 : decode cMO_number 8 = .ok (.iconst 1, 1) := by decide +kernel
theorem dMO_number_9 : decode cMO_number 9 = .ok (.invokevirtual 75, 3) := by decide +kernel
theorem dMO_number_12 : decode cMO_number 12 = .ok (.ireturn, 1) := by decide +kernel
theorem dMO_number_13 : decode cMO_number 13 = .ok (.aload_n 0, 1) := by decide +kernel
theorem dMO_number_14 : decode cMO_number 14 = .ok (.iconst 0, 1) := by decide +kernel
theorem dMO_number_15 : decode cMO_number 15 = .ok (.putfield 44, 3) := by decide +kernel
theorem dMO_number_18 : decode cMO_number 18 = .ok (.iload_n 2, 1) := by decide +kernel
theorem dMO_number_19 : decode cMO_number 19 = .ok (.istore_n 3, 1) := by decide +kernel
theorem dMO_number_20 : decode cMO_number 20 = .ok (.iconst 1, 1) := by decide +kernel
theorem dMO_number_21 : decode cMO_number 21 = .ok (.istore 4, 2) := by decide +kernel
theorem dMO_number_23 : decode cMO_number 23 = .ok (.iload 4, 2) := by decide +kernel
theorem dMO_number_25 : decode cMO_number 25 = .ok (.aload_n 0, 1) := by decide +kernel
theorem dMO_number_26 : decode cMO_number 26 = .ok (.getfield 7, 3) := by decide +kernel
theorem dMO_number_29 : decode cMO_number 29 = .ok (.iload_n 1, 1) := by decide +kernel
theorem dMO_number_30 : decode cMO_number 30 = .ok (.iaload, 1) := by decide +kernel
theorem dMO_number_31 : decode cMO_number 31 = .ok (.if_icmp .gt 43, 3) := by decide +kernel
theorem dMO_number_34 : decode cMO_number 34 = .ok (.aload_n 0, 1) := by decide +kernel
theorem dMO_number_35 : decode cMO_number 35 = .ok (.iload_n 1, 1) := by decide +kernel
theorem dMO_number_36 : decode cMO_number 36 = .ok (.iload 4, 2) := by decide +kernel
theorem dMO_number_38 : decode cMO_number 38 = .ok (.invokevirtual 79, 3) := by decide +kernel
theorem dMO_number_41 : decode cMO_number 41 = .ok (.istore 5, 2) := by decide +kernel
theorem dMO_number_43 : decode cMO_number 43 = .ok (.iload 5, 2) := by decide +kernel
theorem dMO_number_45 : decode cMO_number 45 = .ok (.ifCond .eq 10, 3) := by decide +kernel
theorem dMO_number_48 : decode cMO_number 48 = .ok (.iload_n 3, 1) := by decide +kernel
theorem dMO_number_49 : decode cMO_number 49 = .ok (.ifCond .ne 6, 3) := by decide +kernel
theorem dMO_number_52 : decode cMO_number 52 = .ok (.iload 4, 2) := by decide +kernel
theorem dMO_number_54 : decode cMO_number 54 = .ok (.ireturn, 1) := by decide +kernel
theorem dMO_number_55 : decode cMO_number 55 = .ok (.iload_n 3, 1) := by decide +kernel
theorem dMO_number_56 : decode cMO_number 56 = .ok (.iload 5, 2) := by decide +kernel
theorem dMO_number_58 : decode cMO_number 58 = .ok (.ifCond .eq 7, 3) := by decide +kernel
theorem dMO_number_61 : decode cMO_number 61 = .ok (.iconst 1, 1) := by decide +kernel
theorem dMO_number_62 : decode cMO_number 62 = .ok (.goto 4, 3) := by decide +kernel
theorem dMO_number_65 : decode cMO_number 65 = .ok (.iconst 0, 1) := by decide +kernel
theorem dMO_number_66 : decode cMO_number 66 = .ok (.isub, 1) := by decide +kernel
theorem dMO_number_67 : decode cMO_number 67 = .ok (.istore_n 3, 1) := by decide +kernel
theorem dMO_number_68 : decode cMO_number 68 = .ok (.iinc 4 1, 3) := by decide +kernel
theorem dMO_number_71 : decode cMO_number 71 = .ok (.goto (-48), 3) := by decide +kernel
theorem dMO_number_74 : decode cMO_number 74 = .ok (.iconst (-1), 1) := by decide +kernel
theorem dMO_number_75 : decode cMO_number 75 = .ok (.ireturn, 1) := by decide +kernel
theorem dMO_collected_0 : decode cMO_collected 0 = .ok (.iload_n 1, 1) := by decide +kernel
theorem dMO_collected_1 : decode cMO_collected 1 = .ok (.i2l, 1) := by decide +kernel
theorem dMO_collected_2 : decode cMO_collected 2 = .ok (.lconst 0, 1) := by decide +kernel
theorem dMO_collected_3 : decode cMO_collected 3 = .ok (.ldc2_w 60, 3) := by decide +kernel
theorem dMO_collected_6 : decode cMO_collected 6 = .ok (.invokestatic 52, 3) := by decide +kernel
theorem dMO_collected_9 : decode cMO_collected 9 = .ok (.ifCond .eq 37, 3) := by decide +kernel
theorem dMO_collected_12 : decode cMO_collected 12 = .ok (.iload_n 2, 1) := by decide +kernel
theorem dMO_collected_13 : decode cMO_collected 13 = .ok (.ifCond .lt 33, 3) := by decide +kernel
theorem dMO_collected_16 : decode cMO_collected 16 = .ok (.iload_n 2, 1) := by decide +kernel
theorem dMO_collected_17 : decode cMO_collected 17 = .ok (.aload_n 0, 1) := by decide +kernel
theorem dMO_collected_18 : decode cMO_collected 18 = .ok (.getfield 36, 3) := by decide +kernel
theorem dMO_collected_21 : decode cMO_collected 21 = .ok (.iload_n 1, 1) := by decide +kernel
theorem dMO_collected_22 : decode cMO_collected 22 = .ok (.i2l, 1) := by decide +kernel
theorem dMO_collected_23 : decode cMO_collected 23 = .ok (.lconst 0, 1) := by decide +kernel
theorem dMO_collected_24 : decode cMO_collected 24 = .ok (.ldc2_w 60, 3) := by decide +kernel
theorem dMO_collected_27 : decode cMO_collected 27 = .ok (.invokestatic 52, 3) := by decide +kernel
theorem dMO_collected_30 : decode cMO_collected 30 = .ok (.ifCond .eq 7, 3) := by decide +kernel
theorem dMO_collected_33 : decode cMO_collected 33 = .ok (.iload_n 1, 1) := by decide +kernel
theorem dMO_collected_34 : decode cMO_collected 34 = .ok (.goto 4, 3) := by decide +kernel
theorem dMO_collected_37 : decode cMO_collected 37 = .ok (.iconst 0, 1) := by decide +kernel
theorem dMO_collected_38 : decode cMO_collected 38 = .ok (.iaload, 1) := by decide +kernel
theorem dMO_collected_39 : decode cMO_collected 39 = .ok (.if_icmp .ge 7, 3) := by decide +kernel
theorem dMO_collected_42 : decode cMO_collected 42 = .ok (.iconst 1, 1) := by decide +kernel
theorem dMO_collected_43 : decode cMO_collected 43 = .ok (.goto 4, 3) := by decide +kernel
theorem dMO_collected_46 : decode cMO_collected 46 = .ok (.iconst 0, 1) := by decide +kernel
theorem dMO_collected_47 : decode cMO_collected 47 = .ok (.istore_n 3, 1) := by decide +kernel
theorem dMO_collected_48 : decode cMO_collected 48 = .ok (.aload_n 0, 1) := by decide +kernel
theorem dMO_collected_49 : decode cMO_collected 49 = .ok (.iload_n 3, 1) := by decide +kernel
theorem dMO_collected_50 : decode cMO_collected 50 = .ok (.ifCond .eq 7, 3) := by decide +kernel
theorem dMO_collected_53 : decode cMO_collected 53 = .ok (.iconst 0, 1) := by decide +kernel
theorem dMO_collected_54 : decode cMO_collected 54 = .ok (.goto 4, 3) := by decide +kernel
theorem dMO_collected_57 : decode cMO_collected 57 = .ok (.iconst 1, 1) := by decide +kernel
theorem dMO_collected_58 : decode cMO_collected 58 = .ok (.putfield 44, 3) := by decide +kernel
theorem dMO_collected_61 : decode cMO_collected 61 = .ok (.iload_n 3, 1) := by decide +kernel
theorem dMO_collected_62 : decode cMO_collected 62 = .ok (.ifCond .eq 17, 3) := by decide +kernel
theorem dMO_collected_65 : decode cMO_collected 65 = .ok (.aload_n 0, 1) := by decide +kernel
theorem dMO_collected_66 : decode cMO_collected 66 = .ok (.getfield 39, 3) := by decide +kernel
theorem dMO_collected_69 : decode cMO_collected 69 = .ok (.bipush 100, 2) := by decide +kernel
theorem dMO_collected_71 : decode cMO_collected 71 = .ok (.iload_n 1, 1) := by decide +kernel
theorem dMO_collected_72 : decode cMO_collected 72 = .ok (.imul, 1) := by decide +kernel
theorem dMO_collected_73 : decode cMO_collected 73 = .ok (.iload_n 2, 1) := by decide +kernel
theorem dMO_collected_74 : decode cMO_collected 74 = .ok (.iadd, 1) := by decide +kernel
theorem dMO_collected_75 : decode cMO_collected 75 = .ok (.laload, 1) := by decide +kernel
theorem dMO_collected_76 : decode cMO_collected 76 = .ok (.goto 4, 3) := by decide +kernel
theorem dMO_collected_79 : decode cMO_collected 79 = .ok (.lconst 0, 1) := by decide +kernel
theorem dMO_collected_80 : decode cMO_collected 80 = .ok (.lreturn, 1) := by decide +kernel
theorem dMO_log_0 : decode cMO_log 0 = .ok (.iload_n 1, 1) := by decide +kernel
theorem dMO_log_1 : decode cMO_log 1 = .ok (.i2l, 1) := by decide +kernel
theorem dMO_log_2 : decode cMO_log 2 = .ok (.lconst 0, 1) := by decide +kernel
theorem dMO_log_3 : decode cMO_log 3 = .ok (.lconst 1, 1) := by decide +kernel
theorem dMO_log_4 : decode cMO_log 4 = .ok (.invokestatic 52, 3) := by decide +kernel
theorem dMO_log_7 : decode cMO_log 7 = .ok (.ifCond .eq 35, 3) := by decide +kernel
theorem dMO_log_10 : decode cMO_log 10 = .ok (.iload_n 2, 1) := by decide +kernel
theorem dMO_log_11 : decode cMO_log 11 = .ok (.ifCond .lt 31, 3) := by decide +kernel
theorem dMO_log_14 : decode cMO_log 14 = .ok (.iload_n 2, 1) := by decide +kernel
theorem dMO_log_15 : decode cMO_log 15 = .ok (.aload_n 0, 1) := by decide +kernel
theorem dMO_log_16 : decode cMO_log 16 = .ok (.getfield 27, 3) := by decide +kernel
theorem dMO_log_19 : decode cMO_log 19 = .ok (.iload_n 1, 1) := by decide +kernel
theorem dMO_log_20 : decode cMO_log 20 = .ok (.i2l, 1) := by decide +kernel
theorem dMO_log_21 : decode cMO_log 21 = .ok (.lconst 0, 1) := by decide +kernel
theorem dMO_log_22 : decode cMO_log 22 = .ok (.lconst 1, 1) := by decide +kernel
theorem dMO_log_23 : decode cMO_log 23 = .ok (.invokestatic 52, 3) := by decide +kernel
theorem dMO_log_26 : decode cMO_log 26 = .ok (.ifCond .eq 7, 3) := by decide +kernel
theorem dMO_log_29 : decode cMO_log 29 = .ok (.iload_n 1, 1) := by decide +kernel
theorem dMO_log_30 : decode cMO_log 30 = .ok (.goto 4, 3) := by decide +kernel
theorem dMO_log_33 : decode cMO_log 33 = .ok (.iconst 0, 1) := by decide +kernel
theorem dMO_log_34 : decode cMO_log 34 = .ok (.iaload, 1) := by decide +kernel
theorem dMO_log_35 : decode cMO_log 35 = .ok (.if_icmp .ge 7, 3) := by decide +kernel
theorem dMO_log_38 : decode cMO_log 38 = .ok (.iconst 1, 1) := by decide +kernel
theorem dMO_log_39 : decode cMO_log 39 = .ok (.goto 4, 3) := by decide +kernel
theorem dMO_log_42 : decode cMO_log 42 = .ok (.iconst 0, 1) := by decide +kernel
theorem dMO_log_43 : decode cMO_log 43 = .ok (.istore_n 3, 1) := by decide +kernel
theorem dMO_log_44 : decode cMO_log 44 = .ok (.aload_n 0, 1) := by decide +kernel
theorem dMO_log_45 : decode cMO_log 45 = .ok (.iload_n 3, 1) := by decide +kernel
theorem dMO_log_46 : decode cMO_log 46 = .ok (.ifCond .eq 7, 3) := by decide +kernel
theorem dMO_log_49 : decode cMO_log 49 = .ok (.iconst 0, 1) := by decide +kernel
theorem dMO_log_50 : decode cMO_log 50 = .ok (.goto 4, 3) := by decide +kernel
theorem dMO_log_53 : decode cMO_log 53 = .ok (.iconst 1, 1) := by decide +kernel
theorem dMO_log_54 : decode cMO_log 54 = .ok (.putfield 44, 3) := by decide +kernel
theorem dMO_log_57 : decode cMO_log 57 = .ok (.iload_n 3, 1) := by decide +kernel
theorem dMO_log_58 : decode cMO_log 58 = .ok (.ifCond .eq 17, 3) := by decide +kernel
theorem dMO_log_61 : decode cMO_log 61 = .ok (.aload_n 0, 1) := by decide +kernel
theorem dMO_log_62 : decode cMO_log 62 = .ok (.getfield 30, 3) := by decide +kernel
theorem dMO_log_65 : decode cMO_log 65 = .ok (.bipush 64, 2) := by decide +kernel
theorem dMO_log_67 : decode cMO_log 67 = .ok (.iload_n 1, 1) := by decide +kernel
theorem dMO_log_68 : decode cMO_log 68 = .ok (.imul, 1) := by decide +kernel
theorem dMO_log_69 : decode cMO_log 69 = .ok (.iload_n 2, 1) := by decide +kernel
theorem dMO_log_70 : decode cMO_log 70 = .ok (.iadd, 1) := by decide +kernel
theorem dMO_log_71 : decode cMO_log 71 = .ok (.laload, 1) := by decide +kernel
theorem dMO_log_72 : decode cMO_log 72 = .ok (.goto 4, 3) := by decide +kernel
theorem dMO_log_75 : decode cMO_log 75 = .ok (.lconst 0, 1) := by decide +kernel
theorem dMO_log_76 : decode cMO_log 76 = .ok (.lreturn, 1) := by decide +kernel
theorem dMO_sum_0 : decode cMO_sum 0 = .ok (.iload_n 1, 1) := by decide +kernel
theorem dMO_sum_1 : decode cMO_sum 1 = .ok (.i2l, 1) := by decide +kernel
theorem dMO_sum_2 : decode cMO_sum 2 = .ok (.lconst 0, 1) := by decide +kernel
theorem dMO_sum_3 : decode cMO_sum 3 = .ok (.lconst 1, 1) := by decide +kernel
theorem dMO_sum_4 : decode cMO_sum 4 = .ok (.invokestatic 52, 3) := by decide +kernel
theorem dMO_sum_7 : decode cMO_sum 7 = .ok (.ifCond .eq 14, 3) := by decide +kernel
theorem dMO_sum_10 : decode cMO_sum 10 = .ok (.iload_n 2, 1) := by decide +kernel
theorem dMO_sum_11 : decode cMO_sum 11 = .ok (.invokestatic 66, 3) := by decide +kernel
theorem dMO_sum_14 : decode cMO_sum 14 = .ok (.ifCond .eq 7, 3) := by decide +kernel
theorem dMO_sum_17 : decode cMO_sum 17 = .ok (.iconst 1, 1) := by decide +kernel
theorem dMO_sum_18 : decode cMO_sum 18 = .ok (.goto 4, 3) := by decide +kernel
theorem dMO_sum_21 : decode cMO_sum 21 = .ok (.iconst 0, 1) := by decide +kernel
theorem dMO_sum_22 : decode cMO_sum 22 = .ok (.istore_n 3, 1) := by decide +kernel
theorem dMO_sum_23 : decode cMO_sum 23 = .ok (.aload_n 0, 1) := by decide +kernel
theorem dMO_sum_24 : decode cMO_sum 24 = .ok (.iload_n 3, 1) := by decide +kernel
theorem dMO_sum_25 : decode cMO_sum 25 = .ok (.ifCond .eq 7, 3) := by decide +kernel
theorem dMO_sum_28 : decode cMO_sum 28 = .ok (.iconst 0, 1) := by decide +kernel
theorem dMO_sum_29 : decode cMO_sum 29 = .ok (.goto 4, 3) := by decide +kernel
theorem dMO_sum_32 : decode cMO_sum 32 = .ok (.iconst 1, 1) := by decide +kernel
theorem dMO_sum_33 : decode cMO_sum 33 = .ok (.putfield 44, 3) := by decide +kernel
theorem dMO_sum_36 : decode cMO_sum 36 = .ok (.iload_n 3, 1) := by decide +kernel
theorem dMO_sum_37 : decode cMO_sum 37 = .ok (.ifCond .eq 17, 3) := by decide +kernel
theorem dMO_sum_40 : decode cMO_sum 40 = .ok (.aload_n 0, 1) := by decide +kernel
theorem dMO_sum_41 : decode cMO_sum 41 = .ok (.getfield 24, 3) := by decide +kernel
theorem dMO_sum_44 : decode cMO_sum 44 = .ok (.bipush 12, 2) := by decide +kernel
theorem dMO_sum_46 : decode cMO_sum 46 = .ok (.iload_n 1, 1) := by decide +kernel
theorem dMO_sum_47 : decode cMO_sum 47 = .ok (.imul, 1) := by decide +kernel
theorem dMO_sum_48 : decode cMO_sum 48 = .ok (.iload_n 2, 1) := by decide +kernel
theorem dMO_sum_49 : decode cMO_sum 49 = .ok (.iadd, 1) := by decide +kernel
theorem dMO_sum_50 : decode cMO_sum 50 = .ok (.laload, 1) := by decide +kernel
theorem dMO_sum_51 : decode cMO_sum 51 = .ok (.goto 4, 3) := by decide +kernel
theorem dMO_sum_54 : decode cMO_sum 54 = .ok (.lconst 0, 1) := by decide +kernel
theorem dMO_sum_55 : decode cMO_sum 55 = .ok (.lreturn, 1) := by decide +kernel
theorem dMO_same_0 : decode cMO_same 0 = .ok (.aload_n 0, 1) := by decide +kernel
theorem dMO_same_1 : decode cMO_same 1 = .ok (.iconst 0, 1) := by decide +kernel
theorem dMO_same_2 : decode cMO_same 2 = .ok (.putfield 44, 3) := by decide +kernel
theorem dMO_same_5 : decode cMO_same 5 = .ok (.aload_n 0, 1) := by decide +kernel
theorem dMO_same_6 : decode cMO_same 6 = .ok (.getfield 27, 3) := by decide +kernel
theorem dMO_same_9 : decode cMO_same 9 = .ok (.iconst 0, 1) := by decide +kernel
theorem dMO_same_10 : decode cMO_same 10 = .ok (.iaload, 1) := by decide +kernel
theorem dMO_same_11 : decode cMO_same 11 = .ok (.aload_n 0, 1) := by decide +kernel
theorem dMO_same_12 : decode cMO_same 12 = .ok (.getfield 27, 3) := by decide +kernel
theorem dMO_same_15 : decode cMO_same 15 = .ok (.iconst 1, 1) := by decide +kernel
theorem dMO_same_16 : decode cMO_same 16 = .ok (.iaload, 1) := by decide +kernel
theorem dMO_same_17 : decode cMO_same 17 = .ok (.if_icmp .ne 7, 3) := by decide +kernel
theorem dMO_same_20 : decode cMO_same 20 = .ok (.iconst 1, 1) := by decide +kernel
theorem dMO_same_21 : decode cMO_same 21 = .ok (.goto 4, 3) := by decide +kernel
theorem dMO_same_24 : decode cMO_same 24 = .ok (.iconst 0, 1) := by decide +kernel
theorem dMO_same_25 : decode cMO_same 25 = .ok (.istore_n 1, 1) := by decide +kernel
theorem dMO_same_26 : decode cMO_same 26 = .ok (.iconst 0, 1) := by decide +kernel
theorem dMO_same_27 : decode cMO_same 27 = .ok (.istore_n 2, 1) := by decide +kernel
theorem dMO_same_28 : decode cMO_same 28 = .ok (.iload_n 2, 1) := by decide +kernel
theorem dMO_same_29 : decode cMO_same 29 = .ok (.bipush 64, 2) := by decide +kernel
theorem dMO_same_31 : decode cMO_same 31 = .ok (.if_icmp .ge 48, 3) := by decide +kernel
theorem dMO_same_34 : decode cMO_same 34 = .ok (.iload_n 1, 1) := by decide +kernel
theorem dMO_same_35 : decode cMO_same 35 = .ok (.ifCond .eq 36, 3) := by decide +kernel
theorem dMO_same_38 : decode cMO_same 38 = .ok (.iload_n 2, 1) := by decide +kernel
theorem dMO_same_39 : decode cMO_same 39 = .ok (.aload_n 0, 1) := by decide +kernel
theorem dMO_same_40 : decode cMO_same 40 = .ok (.getfield 27, 3) := by decide +kernel
theorem dMO_same_43 : decode cMO_same 43 = .ok (.iconst 0, 1) := by decide +kernel
theorem dMO_same_44 : decode cMO_same 44 = .ok (.iaload, 1) := by decide +kernel
theorem dMO_same_45 : decode cMO_same 45 = .ok (.if_icmp .ge 22, 3) := by decide +kernel
theorem dMO_same_48 : decode cMO_same 48 = .ok (.aload_n 0, 1) := by decide +kernel
theorem dMO_same_49 : decode cMO_same 49 = .ok (.getfield 30, 3) := by decide +kernel
theorem dMO_same_52 : decode cMO_same 52 = .ok (.iload_n 2, 1) := by decide +kernel
theorem dMO_same_53 : decode cMO_same 53 = .ok (.laload, 1) := by decide +kernel
theorem dMO_same_54 : decode cMO_same 54 = .ok (.aload_n 0, 1) := by decide +kernel
theorem dMO_same_55 : decode cMO_same 55 = .ok (.getfield 30, 3) := by decide +kernel
theorem dMO_same_58 : decode cMO_same 58 = .ok (.bipush 64, 2) := by decide +kernel
theorem dMO_same_60 : decode cMO_same 60 = .ok (.iload_n 2, 1) := by decide +kernel
theorem dMO_same_61 : decode cMO_same 61 = .ok (.iadd, 1) := by decide +kernel
theorem dMO_same_62 : decode cMO_same 62 = .ok (.laload, 1) := by decide +kernel
theorem dMO_same_63 : decode cMO_same 63 = .ok (.lcmp, 1) := by decide +kernel
theorem dMO_same_64 : decode cMO_same 64 = .ok (.ifCond .ne 7, 3) := by decide +kernel
theorem dMO_same_67 : decode cMO_same 67 = .ok (.iconst 1, 1) := by decide +kernel
theorem dMO_same_68 : decode cMO_same 68 = .ok (.goto 4, 3) := by decide +kernel
theorem dMO_same_71 : decode cMO_same 71 = .ok (.iconst 0, 1) := by decide +kernel
theorem dMO_same_72 : decode cMO_same 72 = .ok (.istore_n 1, 1) := by decide +kernel
theorem dMO_same_73 : decode cMO_same 73 = .ok (.iinc 2 1, 3) := by decide +kernel
theorem dMO_same_76 : decode cMO_same 76 = .ok (.goto (-48), 3) := by decide +kernel
theorem dMO_same_79 : decode cMO_same 79 = .ok (.iconst 0, 1) := by decide +kernel
theorem dMO_same_80 : decode cMO_same 80 = .ok (.istore_n 2, 1) := by decide +kernel
theorem dMO_same_81 : decode cMO_same 81 = .ok (.iload_n 2, 1) := by decide +kernel
theorem dMO_same_82 : decode cMO_same 82 = .ok (.bipush 12, 2) := by decide +kernel
theorem dMO_same_84 : decode cMO_same 84 = .ok (.if_icmp .ge 38, 3) := by decide +kernel
theorem dMO_same_87 : decode cMO_same 87 = .ok (.iload_n 1, 1) := by decide +kernel
theorem dMO_same_88 : decode cMO_same 88 = .ok (.ifCond .eq 26, 3) := by decide +kernel
theorem dMO_same_91 : decode cMO_same 91 = .ok (.aload_n 0, 1) := by decide +kernel
theorem dMO_same_92 : decode cMO_same 92 = .ok (.getfield 24, 3) := by decide +kernel
theorem dMO_same_95 : decode cMO_same 95 = .ok (.iload_n 2, 1) := by decide +kernel
theorem dMO_same_96 : decode cMO_same 96 = .ok (.laload, 1) := by decide +kernel
theorem dMO_same_97 : decode cMO_same 97 = .ok (.aload_n 0, 1) := by decide +kernel
theorem dMO_same_98 : decode cMO_same 98 = .ok (.getfield 24, 3) := by decide +kernel
theorem dMO_same_101 : decode cMO_same 101 = .ok (.bipush 12, 2) := by decide +kernel
theorem dMO_same_103 : decode cMO_same 103 = .ok (.iload_n 2, 1) := by decide +kernel
theorem dMO_same_104 : decode cMO_same 104 = .ok (.iadd, 1) := by decide +kernel
theorem dMO_same_105 : decode cMO_same 105 = .ok (.laload, 1) := by decide +kernel
theorem dMO_same_106 : decode cMO_same 106 = .ok (.lcmp, 1) := by decide +kernel
theorem dMO_same_107 : decode cMO_same 107 = .ok (.ifCond .ne 7, 3) := by decide +kernel
theorem dMO_same_110 : decode cMO_same 110 = .ok (.iconst 1, 1) := by decide +kernel
theorem dMO_same_111 : decode cMO_same 111 = .ok (.goto 4, 3) := by decide +kernel
theorem dMO_same_114 : decode cMO_same 114 = .ok (.iconst 0, 1) := by decide +kernel
theorem dMO_same_115 : decode cMO_same 115 = .ok (.istore_n 1, 1) := by decide +kernel
theorem dMO_same_116 : decode cMO_same 116 = .ok (.iinc 2 1, 3) := by decide +kernel
theorem dMO_same_119 : decode cMO_same 119 = .ok (.goto (-38), 3) := by decide +kernel
theorem dMO_same_122 : decode cMO_same 122 = .ok (.iconst 0, 1) := by decide +kernel
theorem dMO_same_123 : decode cMO_same 123 = .ok (.istore_n 2, 1) := by decide +kernel
theorem dMO_same_124 : decode cMO_same 124 = .ok (.iload_n 2, 1) := by decide +kernel
theorem dMO_same_125 : decode cMO_same 125 = .ok (.bipush 8, 2) := by decide +kernel
theorem dMO_same_127 : decode cMO_same 127 = .ok (.if_icmp .ge 38, 3) := by decide +kernel
theorem dMO_same_130 : decode cMO_same 130 = .ok (.iload_n 1, 1) := by decide +kernel
theorem dMO_same_131 : decode cMO_same 131 = .ok (.ifCond .eq 26, 3) := by decide +kernel
theorem dMO_same_134 : decode cMO_same 134 = .ok (.aload_n 0, 1) := by decide +kernel
theorem dMO_same_135 : decode cMO_same 135 = .ok (.getfield 33, 3) := by decide +kernel
theorem dMO_same_138 : decode cMO_same 138 = .ok (.iload_n 2, 1) := by decide +kernel
theorem dMO_same_139 : decode cMO_same 139 = .ok (.laload, 1) := by decide +kernel
theorem dMO_same_140 : decode cMO_same 140 = .ok (.aload_n 0, 1) := by decide +kernel
theorem dMO_same_141 : decode cMO_same 141 = .ok (.getfield 33, 3) := by decide +kernel
theorem dMO_same_144 : decode cMO_same 144 = .ok (.bipush 8, 2) := by decide +kernel
theorem dMO_same_146 : decode cMO_same 146 = .ok (.iload_n 2, 1) := by decide +kernel
theorem dMO_same_147 : decode cMO_same 147 = .ok (.iadd, 1) := by decide +kernel
theorem dMO_same_148 : decode cMO_same 148 = .ok (.laload, 1) := by decide +kernel
theorem dMO_same_149 : decode cMO_same 149 = .ok (.lcmp, 1) := by decide +kernel
theorem dMO_same_150 : decode cMO_same 150 = .ok (.ifCond .ne 7, 3) := by decide +kernel
theorem dMO_same_153 : decode cMO_same 153 = .ok (.iconst 1, 1) := by decide +kernel
theorem dMO_same_154 : decode cMO_same 154 = .ok (.goto 4, 3) := by decide +kernel
theorem dMO_same_157 : decode cMO_same 157 = .ok (.iconst 0, 1) := by decide +kernel
theorem dMO_same_158 : decode cMO_same 158 = .ok (.istore_n 1, 1) := by decide +kernel
theorem dMO_same_159 : decode cMO_same 159 = .ok (.iinc 2 1, 3) := by decide +kernel
theorem dMO_same_162 : decode cMO_same 162 = .ok (.goto (-38), 3) := by decide +kernel
theorem dMO_same_165 : decode cMO_same 165 = .ok (.iload_n 1, 1) := by decide +kernel
theorem dMO_same_166 : decode cMO_same 166 = .ok (.ireturn, 1) := by decide +kernel
end
section
theorem dLW_make_0 : decode cLW_make 0 = .ok (.aload_n 2, 1) := by decide +kernel
theorem dLW_make_1 : decode cLW_make 1 = .ok (.iconst 0, 1) := by decide +kernel
theorem dLW_make_2 : decode cLW_make 2 = .ok (.aload_n 0, 1) := by decide +kernel
theorem dLW_make_3 : decode cLW_make 3 = .ok (.iload_n 1, 1) := by decide +kernel
theorem dLW_make_4 : decode cLW_make 4 = .ok (.invokevirtual 7, 3) := by decide +kernel
theorem dLW_make_7 : decode cLW_make 7 = .ok (.i2l, 1) := by decide +kernel
theorem dLW_make_8 : decode cLW_make 8 = .ok (.lastore, 1) := by decide +kernel
theorem dLW_make_9 : decode cLW_make 9 = .ok (.goto 9, 3) := by decide +kernel
theorem dLW_make_12 : decode cLW_make 12 = .ok (.astore_n 3, 1) := by decide +kernel
theorem dLW_make_13 : decode cLW_make 13 = .ok (.iconst 1, 1) := by decide +kernel
theorem dLW_make_14 : decode cLW_make 14 = .ok (.ireturn, 1) := by decide +kernel
theorem dLW_make_15 : decode cLW_make 15 = .ok (.astore_n 3, 1) := by decide +kernel
theorem dLW_make_16 : decode cLW_make 16 = .ok (.iconst 2, 1) := by decide +kernel
theorem dLW_make_17 : decode cLW_make 17 = .ok (.ireturn, 1) := by decide +kernel
theorem dLW_make_18 : decode cLW_make 18 = .ok (.iconst 0, 1) := by decide +kernel
theorem dLW_make_19 : decode cLW_make 19 = .ok (.ireturn, 1) := by decide +kernel
theorem dLW_told_0 : decode cLW_told 0 = .ok (.aload_n 2, 1) := by decide +kernel
theorem dLW_told_1 : decode cLW_told 1 = .ok (.iconst 0, 1) := by decide +kernel
theorem dLW_told_2 : decode cLW_told 2 = .ok (.aload_n 0, 1) := by decide +kernel
theorem dLW_told_3 : decode cLW_told 3 = .ok (.iload_n 1, 1) := by decide +kernel
theorem dLW_told_4 : decode cLW_told 4 = .ok (.invokevirtual 17, 3) := by decide +kernel
theorem dLW_told_7 : decode cLW_told 7 = .ok (.lastore, 1) := by decide +kernel
theorem dLW_told_8 : decode cLW_told 8 = .ok (.goto 6, 3) := by decide +kernel
theorem dLW_told_11 : decode cLW_told 11 = .ok (.astore_n 3, 1) := by decide +kernel
theorem dLW_told_12 : decode cLW_told 12 = .ok (.iconst 1, 1) := by decide +kernel
theorem dLW_told_13 : decode cLW_told 13 = .ok (.ireturn, 1) := by decide +kernel
theorem dLW_told_14 : decode cLW_told 14 = .ok (.iconst 0, 1) := by decide +kernel
theorem dLW_told_15 : decode cLW_told 15 = .ok (.ireturn, 1) := by decide +kernel
theorem dLW_number_0 : decode cLW_number 0 = .ok (.aload_n 3, 1) := by decide +kernel
theorem dLW_number_1 : decode cLW_number 1 = .ok (.iconst 0, 1) := by decide +kernel
theorem dLW_number_2 : decode cLW_number 2 = .ok (.aload_n 0, 1) := by decide +kernel
theorem dLW_number_3 : decode cLW_number 3 = .ok (.iload_n 1, 1) := by decide +kernel
theorem dLW_number_4 : decode cLW_number 4 = .ok (.iload_n 2, 1) := by decide +kernel
theorem dLW_number_5 : decode cLW_number 5 = .ok (.invokevirtual 23, 3) := by decide +kernel
theorem dLW_number_8 : decode cLW_number 8 = .ok (.i2l, 1) := by decide +kernel
theorem dLW_number_9 : decode cLW_number 9 = .ok (.lastore, 1) := by decide +kernel
theorem dLW_number_10 : decode cLW_number 10 = .ok (.goto 7, 3) := by decide +kernel
theorem dLW_number_13 : decode cLW_number 13 = .ok (.astore 4, 2) := by decide +kernel
theorem dLW_number_15 : decode cLW_number 15 = .ok (.iconst 1, 1) := by decide +kernel
theorem dLW_number_16 : decode cLW_number 16 = .ok (.ireturn, 1) := by decide +kernel
theorem dLW_number_17 : decode cLW_number 17 = .ok (.iconst 0, 1) := by decide +kernel
theorem dLW_number_18 : decode cLW_number 18 = .ok (.ireturn, 1) := by decide +kernel
theorem dLW_collected_0 : decode cLW_collected 0 = .ok (.aload_n 3, 1) := by decide +kernel
theorem dLW_collected_1 : decode cLW_collected 1 = .ok (.iconst 0, 1) := by decide +kernel
theorem dLW_collected_2 : decode cLW_collected 2 = .ok (.aload_n 0, 1) := by decide +kernel
theorem dLW_collected_3 : decode cLW_collected 3 = .ok (.iload_n 1, 1) := by decide +kernel
theorem dLW_collected_4 : decode cLW_collected 4 = .ok (.iload_n 2, 1) := by decide +kernel
theorem dLW_collected_5 : decode cLW_collected 5 = .ok (.invokevirtual 27, 3) := by decide +kernel
theorem dLW_collected_8 : decode cLW_collected 8 = .ok (.lastore, 1) := by decide +kernel
theorem dLW_collected_9 : decode cLW_collected 9 = .ok (.goto 7, 3) := by decide +kernel
theorem dLW_collected_12 : decode cLW_collected 12 = .ok (.astore 4, 2) := by decide +kernel
theorem dLW_collected_14 : decode cLW_collected 14 = .ok (.iconst 1, 1) := by decide +kernel
theorem dLW_collected_15 : decode cLW_collected 15 = .ok (.ireturn, 1) := by decide +kernel
theorem dLW_collected_16 : decode cLW_collected 16 = .ok (.iconst 0, 1) := by decide +kernel
theorem dLW_collected_17 : decode cLW_collected 17 = .ok (.ireturn, 1) := by decide +kernel
theorem dLW_log_0 : decode cLW_log 0 = .ok (.aload_n 3, 1) := by decide +kernel
theorem dLW_log_1 : decode cLW_log 1 = .ok (.iconst 0, 1) := by decide +kernel
theorem dLW_log_2 : decode cLW_log 2 = .ok (.aload_n 0, 1) := by decide +kernel
theorem dLW_log_3 : decode cLW_log 3 = .ok (.iload_n 1, 1) := by decide +kernel
theorem dLW_log_4 : decode cLW_log 4 = .ok (.iload_n 2, 1) := by decide +kernel
theorem dLW_log_5 : decode cLW_log 5 = .ok (.invokevirtual 31, 3) := by decide +kernel
theorem dLW_log_8 : decode cLW_log 8 = .ok (.lastore, 1) := by decide +kernel
theorem dLW_log_9 : decode cLW_log 9 = .ok (.goto 7, 3) := by decide +kernel
theorem dLW_log_12 : decode cLW_log 12 = .ok (.astore 4, 2) := by decide +kernel
theorem dLW_log_14 : decode cLW_log 14 = .ok (.iconst 1, 1) := by decide +kernel
theorem dLW_log_15 : decode cLW_log 15 = .ok (.ireturn, 1) := by decide +kernel
theorem dLW_log_16 : decode cLW_log 16 = .ok (.iconst 0, 1) := by decide +kernel
theorem dLW_log_17 : decode cLW_log 17 = .ok (.ireturn, 1) := by decide +kernel
theorem dLW_sum_0 : decode cLW_sum 0 = .ok (.aload_n 3, 1) := by decide +kernel
theorem dLW_sum_1 : decode cLW_sum 1 = .ok (.iconst 0, 1) := by decide +kernel
theorem dLW_sum_2 : decode cLW_sum 2 = .ok (.aload_n 0, 1) := by decide +kernel
theorem dLW_sum_3 : decode cLW_sum 3 = .ok (.iload_n 1, 1) := by decide +kernel
theorem dLW_sum_4 : decode cLW_sum 4 = .ok (.iload_n 2, 1) := by decide +kernel
theorem dLW_sum_5 : decode cLW_sum 5 = .ok (.invokevirtual 34, 3) := by decide +kernel
theorem dLW_sum_8 : decode cLW_sum 8 = .ok (.lastore, 1) := by decide +kernel
theorem dLW_sum_9 : decode cLW_sum 9 = .ok (.goto 7, 3) := by decide +kernel
theorem dLW_sum_12 : decode cLW_sum 12 = .ok (.astore 4, 2) := by decide +kernel
theorem dLW_sum_14 : decode cLW_sum 14 = .ok (.iconst 1, 1) := by decide +kernel
theorem dLW_sum_15 : decode cLW_sum 15 = .ok (.ireturn, 1) := by decide +kernel
theorem dLW_sum_16 : decode cLW_sum 16 = .ok (.iconst 0, 1) := by decide +kernel
theorem dLW_sum_17 : decode cLW_sum 17 = .ok (.ireturn, 1) := by decide +kernel
theorem dLW_law_0 : decode cLW_law 0 = .ok (.new 8, 3) := by decide +kernel
theorem dLW_law_3 : decode cLW_law 3 = .ok (.dup, 1) := by decide +kernel
theorem dLW_law_4 : decode cLW_law 4 = .ok (.invokespecial 37, 3) := by decide +kernel
theorem dLW_law_7 : decode cLW_law 7 = .ok (.astore_n 1, 1) := by decide +kernel
theorem dLW_law_8 : decode cLW_law 8 = .ok (.new 38, 3) := by decide +kernel
theorem dLW_law_11 : decode cLW_law 11 = .ok (.dup, 1) := by decide +kernel
theorem dLW_law_12 : decode cLW_law 12 = .ok (.invokespecial 40, 3) := by decide +kernel
theorem dLW_law_15 : decode cLW_law 15 = .ok (.astore_n 2, 1) := by decide +kernel
theorem dLW_law_16 : decode cLW_law 16 = .ok (.iconst 1, 1) := by decide +kernel
theorem dLW_law_17 : decode cLW_law 17 = .ok (.newarray .long, 2) := by decide +kernel
theorem dLW_law_19 : decode cLW_law 19 = .ok (.astore_n 3, 1) := by decide +kernel
theorem dLW_law_20 : decode cLW_law 20 = .ok (.iconst 0, 1) := by decide +kernel
theorem dLW_law_21 : decode cLW_law 21 = .ok (.istore 4, 2) := by decide +kernel
theorem dLW_law_23 : decode cLW_law 23 = .ok (.iload 4, 2) := by decide +kernel
theorem dLW_law_25 : decode cLW_law 25 = .ok (.aload_n 0, 1) := by decide +kernel
theorem dLW_law_26 : decode cLW_law 26 = .ok (.arraylength, 1) := by decide +kernel
theorem dLW_law_27 : decode cLW_law 27 = .ok (.iconst 5, 1) := by decide +kernel
theorem dLW_law_28 : decode cLW_law 28 = .ok (.isub, 1) := by decide +kernel
theorem dLW_law_29 : decode cLW_law 29 = .ok (.if_icmp .gt 879, 3) := by decide +kernel
theorem dLW_law_32 : decode cLW_law 32 = .ok (.aload_n 0, 1) := by decide +kernel
theorem dLW_law_33 : decode cLW_law 33 = .ok (.iload 4, 2) := by decide +kernel
theorem dLW_law_35 : decode cLW_law 35 = .ok (.iaload, 1) := by decide +kernel
theorem dLW_law_36 : decode cLW_law 36 = .ok (.bipush 15, 2) := by decide +kernel
theorem dLW_law_38 : decode cLW_law 38 = .ok (.iand, 1) := by decide +kernel
theorem dLW_law_39 : decode cLW_law 39 = .ok (.tableswitch 863 0 13 #[69, 138, 207, 244, 300, 337, 419, 501, 556, 581, 649, 716, 783, 850], 69) := by decide +kernel
theorem dLW_law_108 : decode cLW_law 108 = .ok (.aload_n 1, 1) := by decide +kernel
theorem dLW_law_109 : decode cLW_law 109 = .ok (.aload_n 0, 1) := by decide +kernel
theorem dLW_law_110 : decode cLW_law 110 = .ok (.iload 4, 2) := by decide +kernel
theorem dLW_law_112 : decode cLW_law 112 = .ok (.iconst 1, 1) := by decide +kernel
theorem dLW_law_113 : decode cLW_law 113 = .ok (.iadd, 1) := by decide +kernel
theorem dLW_law_114 : decode cLW_law 114 = .ok (.iaload, 1) := by decide +kernel
theorem dLW_law_115 : decode cLW_law 115 = .ok (.aload_n 0, 1) := by decide +kernel
theorem dLW_law_116 : decode cLW_law 116 = .ok (.iload 4, 2) := by decide +kernel
theorem dLW_law_118 : decode cLW_law 118 = .ok (.iconst 2, 1) := by decide +kernel
theorem dLW_law_119 : decode cLW_law 119 = .ok (.iadd, 1) := by decide +kernel
theorem dLW_law_120 : decode cLW_law 120 = .ok (.iaload, 1) := by decide +kernel
theorem dLW_law_121 : decode cLW_law 121 = .ok (.i2l, 1) := by decide +kernel
theorem dLW_law_122 : decode cLW_law 122 = .ok (.bipush 32, 2) := by decide +kernel
theorem dLW_law_124 : decode cLW_law 124 = .ok (.lshl, 1) := by decide +kernel
theorem dLW_law_125 : decode cLW_law 125 = .ok (.aload_n 0, 1) := by decide +kernel
theorem dLW_law_126 : decode cLW_law 126 = .ok (.iload 4, 2) := by decide +kernel
theorem dLW_law_128 : decode cLW_law 128 = .ok (.iconst 3, 1) := by decide +kernel
theorem dLW_law_129 : decode cLW_law 129 = .ok (.iadd, 1) := by decide +kernel
theorem dLW_law_130 : decode cLW_law 130 = .ok (.iaload, 1) := by decide +kernel
theorem dLW_law_131 : decode cLW_law 131 = .ok (.i2l, 1) := by decide +kernel
theorem dLW_law_132 : decode cLW_law 132 = .ok (.ldc2_w 41, 3) := by decide +kernel
theorem dLW_law_135 : decode cLW_law 135 = .ok (.land, 1) := by decide +kernel
theorem dLW_law_136 : decode cLW_law 136 = .ok (.lor, 1) := by decide +kernel
theorem dLW_law_137 : decode cLW_law 137 = .ok (.invokevirtual 43, 3) := by decide +kernel
theorem dLW_law_140 : decode cLW_law 140 = .ok (.aload_n 2, 1) := by decide +kernel
theorem dLW_law_141 : decode cLW_law 141 = .ok (.aload_n 0, 1) := by decide +kernel
theorem dLW_law_142 : decode cLW_law 142 = .ok (.iload 4, 2) := by decide +kernel
theorem dLW_law_144 : decode cLW_law 144 = .ok (.iconst 1, 1) := by decide +kernel
theorem dLW_law_145 : decode cLW_law 145 = .ok (.iadd, 1) := by decide +kernel
theorem dLW_law_146 : decode cLW_law 146 = .ok (.iaload, 1) := by decide +kernel
theorem dLW_law_147 : decode cLW_law 147 = .ok (.aload_n 0, 1) := by decide +kernel
theorem dLW_law_148 : decode cLW_law 148 = .ok (.iload 4, 2) := by decide +kernel
theorem dLW_law_150 : decode cLW_law 150 = .ok (.iconst 2, 1) := by decide +kernel
theorem dLW_law_151 : decode cLW_law 151 = .ok (.iadd, 1) := by decide +kernel
theorem dLW_law_152 : decode cLW_law 152 = .ok (.iaload, 1) := by decide +kernel
theorem dLW_law_153 : decode cLW_law 153 = .ok (.i2l, 1) := by decide +kernel
theorem dLW_law_154 : decode cLW_law 154 = .ok (.bipush 32, 2) := by decide +kernel
theorem dLW_law_156 : decode cLW_law 156 = .ok (.lshl, 1) := by decide +kernel
theorem dLW_law_157 : decode cLW_law 157 = .ok (.aload_n 0, 1) := by decide +kernel
theorem dLW_law_158 : decode cLW_law 158 = .ok (.iload 4, 2) := by decide +kernel
theorem dLW_law_160 : decode cLW_law 160 = .ok (.iconst 3, 1) := by decide +kernel
theorem dLW_law_161 : decode cLW_law 161 = .ok (.iadd, 1) := by decide +kernel
theorem dLW_law_162 : decode cLW_law 162 = .ok (.iaload, 1) := by decide +kernel
theorem dLW_law_163 : decode cLW_law 163 = .ok (.i2l, 1) := by decide +kernel
theorem dLW_law_164 : decode cLW_law 164 = .ok (.ldc2_w 41, 3) := by decide +kernel
theorem dLW_law_167 : decode cLW_law 167 = .ok (.land, 1) := by decide +kernel
theorem dLW_law_168 : decode cLW_law 168 = .ok (.lor, 1) := by decide +kernel
theorem dLW_law_169 : decode cLW_law 169 = .ok (.invokevirtual 47, 3) := by decide +kernel
theorem dLW_law_172 : decode cLW_law 172 = .ok (.if_icmp .eq 730, 3) := by decide +kernel
theorem dLW_law_175 : decode cLW_law 175 = .ok (.iconst 0, 1) := by decide +kernel
theorem dLW_law_176 : decode cLW_law 176 = .ok (.ireturn, 1) := by decide +kernel
theorem dLW_law_177 : decode cLW_law 177 = .ok (.aload_n 1, 1) := by decide +kernel
theorem dLW_law_178 : decode cLW_law 178 = .ok (.aload_n 0, 1) := by decide +kernel
theorem dLW_law_179 : decode cLW_law 179 = .ok (.iload 4, 2) := by decide +kernel
theorem dLW_law_181 : decode cLW_law 181 = .ok (.iconst 1, 1) := by decide +kernel
theorem dLW_law_182 : decode cLW_law 182 = .ok (.iadd, 1) := by decide +kernel
theorem dLW_law_183 : decode cLW_law 183 = .ok (.iaload, 1) := by decide +kernel
theorem dLW_law_184 : decode cLW_law 184 = .ok (.aload_n 0, 1) := by decide +kernel
theorem dLW_law_185 : decode cLW_law 185 = .ok (.iload 4, 2) := by decide +kernel
theorem dLW_law_187 : decode cLW_law 187 = .ok (.iconst 2, 1) := by decide +kernel
theorem dLW_law_188 : decode cLW_law 188 = .ok (.iadd, 1) := by decide +kernel
theorem dLW_law_189 : decode cLW_law 189 = .ok (.iaload, 1) := by decide +kernel
theorem dLW_law_190 : decode cLW_law 190 = .ok (.i2l, 1) := by decide +kernel
theorem dLW_law_191 : decode cLW_law 191 = .ok (.bipush 32, 2) := by decide +kernel
theorem dLW_law_193 : decode cLW_law 193 = .ok (.lshl, 1) := by decide +kernel
theorem dLW_law_194 : decode cLW_law 194 = .ok (.aload_n 0, 1) := by decide +kernel
theorem dLW_law_195 : decode cLW_law 195 = .ok (.iload 4, 2) := by decide +kernel
theorem dLW_law_197 : decode cLW_law 197 = .ok (.iconst 3, 1) := by decide +kernel
theorem dLW_law_198 : decode cLW_law 198 = .ok (.iadd, 1) := by decide +kernel
theorem dLW_law_199 : decode cLW_law 199 = .ok (.iaload, 1) := by decide +kernel
theorem dLW_law_200 : decode cLW_law 200 = .ok (.i2l, 1) := by decide +kernel
theorem dLW_law_201 : decode cLW_law 201 = .ok (.ldc2_w 41, 3) := by decide +kernel
theorem dLW_law_204 : decode cLW_law 204 = .ok (.land, 1) := by decide +kernel
theorem dLW_law_205 : decode cLW_law 205 = .ok (.lor, 1) := by decide +kernel
theorem dLW_law_206 : decode cLW_law 206 = .ok (.invokevirtual 48, 3) := by decide +kernel
theorem dLW_law_209 : decode cLW_law 209 = .ok (.aload_n 2, 1) := by decide +kernel
theorem dLW_law_210 : decode cLW_law 210 = .ok (.aload_n 0, 1) := by decide +kernel
theorem dLW_law_211 : decode cLW_law 211 = .ok (.iload 4, 2) := by decide +kernel
theorem dLW_law_213 : decode cLW_law 213 = .ok (.iconst 1, 1) := by decide +kernel
theorem dLW_law_214 : decode cLW_law 214 = .ok (.iadd, 1) := by decide +kernel
theorem dLW_law_215 : decode cLW_law 215 = .ok (.iaload, 1) := by decide +kernel
theorem dLW_law_216 : decode cLW_law 216 = .ok (.aload_n 0, 1) := by decide +kernel
theorem dLW_law_217 : decode cLW_law 217 = .ok (.iload 4, 2) := by decide +kernel
theorem dLW_law_219 : decode cLW_law 219 = .ok (.iconst 2, 1) := by decide +kernel
theorem dLW_law_220 : decode cLW_law 220 = .ok (.iadd, 1) := by decide +kernel
theorem dLW_law_221 : decode cLW_law 221 = .ok (.iaload, 1) := by decide +kernel
theorem dLW_law_222 : decode cLW_law 222 = .ok (.i2l, 1) := by decide +kernel
theorem dLW_law_223 : decode cLW_law 223 = .ok (.bipush 32, 2) := by decide +kernel
theorem dLW_law_225 : decode cLW_law 225 = .ok (.lshl, 1) := by decide +kernel
theorem dLW_law_226 : decode cLW_law 226 = .ok (.aload_n 0, 1) := by decide +kernel
theorem dLW_law_227 : decode cLW_law 227 = .ok (.iload 4, 2) := by decide +kernel
theorem dLW_law_229 : decode cLW_law 229 = .ok (.iconst 3, 1) := by decide +kernel
theorem dLW_law_230 : decode cLW_law 230 = .ok (.iadd, 1) := by decide +kernel
theorem dLW_law_231 : decode cLW_law 231 = .ok (.iaload, 1) := by decide +kernel
theorem dLW_law_232 : decode cLW_law 232 = .ok (.i2l, 1) := by decide +kernel
theorem dLW_law_233 : decode cLW_law 233 = .ok (.ldc2_w 41, 3) := by decide +kernel
theorem dLW_law_236 : decode cLW_law 236 = .ok (.land, 1) := by decide +kernel
theorem dLW_law_237 : decode cLW_law 237 = .ok (.lor, 1) := by decide +kernel
theorem dLW_law_238 : decode cLW_law 238 = .ok (.invokevirtual 52, 3) := by decide +kernel
theorem dLW_law_241 : decode cLW_law 241 = .ok (.if_icmp .eq 661, 3) := by decide +kernel
theorem dLW_law_244 : decode cLW_law 244 = .ok (.iconst 0, 1) := by decide +kernel
theorem dLW_law_245 : decode cLW_law 245 = .ok (.ireturn, 1) := by decide +kernel
theorem dLW_law_246 : decode cLW_law 246 = .ok (.aload_n 1, 1) := by decide +kernel
theorem dLW_law_247 : decode cLW_law 247 = .ok (.aload_n 0, 1) := by decide +kernel
theorem dLW_law_248 : decode cLW_law 248 = .ok (.iload 4, 2) := by decide +kernel
theorem dLW_law_250 : decode cLW_law 250 = .ok (.iconst 1, 1) := by decide +kernel
theorem dLW_law_251 : decode cLW_law 251 = .ok (.iadd, 1) := by decide +kernel
theorem dLW_law_252 : decode cLW_law 252 = .ok (.iaload, 1) := by decide +kernel
theorem dLW_law_253 : decode cLW_law 253 = .ok (.aload_n 0, 1) := by decide +kernel
theorem dLW_law_254 : decode cLW_law 254 = .ok (.iload 4, 2) := by decide +kernel
theorem dLW_law_256 : decode cLW_law 256 = .ok (.iconst 2, 1) := by decide +kernel
theorem dLW_law_257 : decode cLW_law 257 = .ok (.iadd, 1) := by decide +kernel
theorem dLW_law_258 : decode cLW_law 258 = .ok (.iaload, 1) := by decide +kernel
theorem dLW_law_259 : decode cLW_law 259 = .ok (.invokevirtual 53, 3) := by decide +kernel
theorem dLW_law_262 : decode cLW_law 262 = .ok (.aload_n 2, 1) := by decide +kernel
theorem dLW_law_263 : decode cLW_law 263 = .ok (.aload_n 0, 1) := by decide +kernel
theorem dLW_law_264 : decode cLW_law 264 = .ok (.iload 4, 2) := by decide +kernel
theorem dLW_law_266 : decode cLW_law 266 = .ok (.iconst 1, 1) := by decide +kernel
theorem dLW_law_267 : decode cLW_law 267 = .ok (.iadd, 1) := by decide +kernel
theorem dLW_law_268 : decode cLW_law 268 = .ok (.iaload, 1) := by decide +kernel
theorem dLW_law_269 : decode cLW_law 269 = .ok (.aload_n 0, 1) := by decide +kernel
theorem dLW_law_270 : decode cLW_law 270 = .ok (.iload 4, 2) := by decide +kernel
theorem dLW_law_272 : decode cLW_law 272 = .ok (.iconst 2, 1) := by decide +kernel
theorem dLW_law_273 : decode cLW_law 273 = .ok (.iadd, 1) := by decide +kernel
theorem dLW_law_274 : decode cLW_law 274 = .ok (.iaload, 1) := by decide +kernel
theorem dLW_law_275 : decode cLW_law 275 = .ok (.invokevirtual 57, 3) := by decide +kernel
theorem dLW_law_278 : decode cLW_law 278 = .ok (.if_icmp .eq 624, 3) := by decide +kernel
theorem dLW_law_281 : decode cLW_law 281 = .ok (.iconst 0, 1) := by decide +kernel
theorem dLW_law_282 : decode cLW_law 282 = .ok (.ireturn, 1) := by decide +kernel
theorem dLW_law_283 : decode cLW_law 283 = .ok (.aload_n 1, 1) := by decide +kernel
theorem dLW_law_284 : decode cLW_law 284 = .ok (.aload_n 0, 1) := by decide +kernel
theorem dLW_law_285 : decode cLW_law 285 = .ok (.iload 4, 2) := by decide +kernel
theorem dLW_law_287 : decode cLW_law 287 = .ok (.iconst 1, 1) := by decide +kernel
theorem dLW_law_288 : decode cLW_law 288 = .ok (.iadd, 1) := by decide +kernel
theorem dLW_law_289 : decode cLW_law 289 = .ok (.iaload, 1) := by decide +kernel
theorem dLW_law_290 : decode cLW_law 290 = .ok (.aload_n 3, 1) := by decide +kernel
theorem dLW_law_291 : decode cLW_law 291 = .ok (.invokestatic 58, 3) := by decide +kernel
theorem dLW_law_294 : decode cLW_law 294 = .ok (.istore 5, 2) := by decide +kernel
theorem dLW_law_296 : decode cLW_law 296 = .ok (.aload_n 2, 1) := by decide +kernel
theorem dLW_law_297 : decode cLW_law 297 = .ok (.aload_n 0, 1) := by decide +kernel
theorem dLW_law_298 : decode cLW_law 298 = .ok (.iload 4, 2) := by decide +kernel
theorem dLW_law_300 : decode cLW_law 300 = .ok (.iconst 1, 1) := by decide +kernel
theorem dLW_law_301 : decode cLW_law 301 = .ok (.iadd, 1) := by decide +kernel
theorem dLW_law_302 : decode cLW_law 302 = .ok (.iaload, 1) := by decide +kernel
theorem dLW_law_303 : decode cLW_law 303 = .ok (.invokevirtual 63, 3) := by decide +kernel
theorem dLW_law_306 : decode cLW_law 306 = .ok (.istore 6, 2) := by decide +kernel
theorem dLW_law_308 : decode cLW_law 308 = .ok (.aload_n 2, 1) := by decide +kernel
theorem dLW_law_309 : decode cLW_law 309 = .ok (.invokevirtual 64, 3) := by decide +kernel
theorem dLW_law_312 : decode cLW_law 312 = .ok (.iload 5, 2) := by decide +kernel
theorem dLW_law_314 : decode cLW_law 314 = .ok (.if_icmp .eq 5, 3) := by decide +kernel
theorem dLW_law_317 : decode cLW_law 317 = .ok (.iconst 0, 1) := by decide +kernel
theorem dLW_law_318 : decode cLW_law 318 = .ok (.ireturn, 1) := by decide +kernel
theorem dLW_law_319 : decode cLW_law 319 = .ok (.iload 5, 2) := by decide +kernel
theorem dLW_law_321 : decode cLW_law 321 = .ok (.ifCond .ne 15, 3) := by decide +kernel
theorem dLW_law_324 : decode cLW_law 324 = .ok (.aload_n 3, 1) := by decide +kernel
theorem dLW_law_325 : decode cLW_law 325 = .ok (.iconst 0, 1) := by decide +kernel
theorem dLW_law_326 : decode cLW_law 326 = .ok (.laload, 1) := by decide +kernel
theorem dLW_law_327 : decode cLW_law 327 = .ok (.iload 6, 2) := by decide +kernel
theorem dLW_law_329 : decode cLW_law 329 = .ok (.i2l, 1) := by decide +kernel
theorem dLW_law_330 : decode cLW_law 330 = .ok (.lcmp, 1) := by decide +kernel
theorem dLW_law_331 : decode cLW_law 331 = .ok (.ifCond .eq 5, 3) := by decide +kernel
theorem dLW_law_334 : decode cLW_law 334 = .ok (.iconst 0, 1) := by decide +kernel
theorem dLW_law_335 : decode cLW_law 335 = .ok (.ireturn, 1) := by decide +kernel
theorem dLW_law_336 : decode cLW_law 336 = .ok (.goto 566, 3) := by decide +kernel
theorem dLW_law_339 : decode cLW_law 339 = .ok (.aload_n 1, 1) := by decide +kernel
theorem dLW_law_340 : decode cLW_law 340 = .ok (.aload_n 0, 1) := by decide +kernel
theorem dLW_law_341 : decode cLW_law 341 = .ok (.iload 4, 2) := by decide +kernel
theorem dLW_law_343 : decode cLW_law 343 = .ok (.iconst 1, 1) := by decide +kernel
theorem dLW_law_344 : decode cLW_law 344 = .ok (.iadd, 1) := by decide +kernel
theorem dLW_law_345 : decode cLW_law 345 = .ok (.iaload, 1) := by decide +kernel
theorem dLW_law_346 : decode cLW_law 346 = .ok (.aload_n 0, 1) := by decide +kernel
theorem dLW_law_347 : decode cLW_law 347 = .ok (.iload 4, 2) := by decide +kernel
theorem dLW_law_349 : decode cLW_law 349 = .ok (.iconst 2, 1) := by decide +kernel
theorem dLW_law_350 : decode cLW_law 350 = .ok (.iadd, 1) := by decide +kernel
theorem dLW_law_351 : decode cLW_law 351 = .ok (.iaload, 1) := by decide +kernel
theorem dLW_law_352 : decode cLW_law 352 = .ok (.invokevirtual 68, 3) := by decide +kernel
theorem dLW_law_355 : decode cLW_law 355 = .ok (.aload_n 2, 1) := by decide +kernel
theorem dLW_law_356 : decode cLW_law 356 = .ok (.aload_n 0, 1) := by decide +kernel
theorem dLW_law_357 : decode cLW_law 357 = .ok (.iload 4, 2) := by decide +kernel
theorem dLW_law_359 : decode cLW_law 359 = .ok (.iconst 1, 1) := by decide +kernel
theorem dLW_law_360 : decode cLW_law 360 = .ok (.iadd, 1) := by decide +kernel
theorem dLW_law_361 : decode cLW_law 361 = .ok (.iaload, 1) := by decide +kernel
theorem dLW_law_362 : decode cLW_law 362 = .ok (.aload_n 0, 1) := by decide +kernel
theorem dLW_law_363 : decode cLW_law 363 = .ok (.iload 4, 2) := by decide +kernel
theorem dLW_law_365 : decode cLW_law 365 = .ok (.iconst 2, 1) := by decide +kernel
theorem dLW_law_366 : decode cLW_law 366 = .ok (.iadd, 1) := by decide +kernel
theorem dLW_law_367 : decode cLW_law 367 = .ok (.iaload, 1) := by decide +kernel
theorem dLW_law_368 : decode cLW_law 368 = .ok (.invokevirtual 71, 3) := by decide +kernel
theorem dLW_law_371 : decode cLW_law 371 = .ok (.if_icmp .eq 531, 3) := by decide +kernel
theorem dLW_law_374 : decode cLW_law 374 = .ok (.iconst 0, 1) := by decide +kernel
theorem dLW_law_375 : decode cLW_law 375 = .ok (.ireturn, 1) := by decide +kernel
theorem dLW_law_376 : decode cLW_law 376 = .ok (.aload_n 1, 1) := by decide +kernel
theorem dLW_law_377 : decode cLW_law 377 = .ok (.aload_n 0, 1) := by decide +kernel
theorem dLW_law_378 : decode cLW_law 378 = .ok (.iload 4, 2) := by decide +kernel
theorem dLW_law_380 : decode cLW_law 380 = .ok (.iconst 1, 1) := by decide +kernel
theorem dLW_law_381 : decode cLW_law 381 = .ok (.iadd, 1) := by decide +kernel
theorem dLW_law_382 : decode cLW_law 382 = .ok (.iaload, 1) := by decide +kernel
theorem dLW_law_383 : decode cLW_law 383 = .ok (.aload_n 0, 1) := by decide +kernel
theorem dLW_law_384 : decode cLW_law 384 = .ok (.iload 4, 2) := by decide +kernel
theorem dLW_law_386 : decode cLW_law 386 = .ok (.iconst 2, 1) := by decide +kernel
theorem dLW_law_387 : decode cLW_law 387 = .ok (.iadd, 1) := by decide +kernel
theorem dLW_law_388 : decode cLW_law 388 = .ok (.iaload, 1) := by decide +kernel
theorem dLW_law_389 : decode cLW_law 389 = .ok (.aload_n 0, 1) := by decide +kernel
theorem dLW_law_390 : decode cLW_law 390 = .ok (.iload 4, 2) := by decide +kernel
theorem dLW_law_392 : decode cLW_law 392 = .ok (.iconst 3, 1) := by decide +kernel
theorem dLW_law_393 : decode cLW_law 393 = .ok (.iadd, 1) := by decide +kernel
theorem dLW_law_394 : decode cLW_law 394 = .ok (.iaload, 1) := by decide +kernel
theorem dLW_law_395 : decode cLW_law 395 = .ok (.i2l, 1) := by decide +kernel
theorem dLW_law_396 : decode cLW_law 396 = .ok (.bipush 32, 2) := by decide +kernel
theorem dLW_law_398 : decode cLW_law 398 = .ok (.lshl, 1) := by decide +kernel
theorem dLW_law_399 : decode cLW_law 399 = .ok (.aload_n 0, 1) := by decide +kernel
theorem dLW_law_400 : decode cLW_law 400 = .ok (.iload 4, 2) := by decide +kernel
theorem dLW_law_402 : decode cLW_law 402 = .ok (.iconst 4, 1) := by decide +kernel
theorem dLW_law_403 : decode cLW_law 403 = .ok (.iadd, 1) := by decide +kernel
theorem dLW_law_404 : decode cLW_law 404 = .ok (.iaload, 1) := by decide +kernel
theorem dLW_law_405 : decode cLW_law 405 = .ok (.i2l, 1) := by decide +kernel
theorem dLW_law_406 : decode cLW_law 406 = .ok (.ldc2_w 41, 3) := by decide +kernel
theorem dLW_law_409 : decode cLW_law 409 = .ok (.land, 1) := by decide +kernel
theorem dLW_law_410 : decode cLW_law 410 = .ok (.lor, 1) := by decide +kernel
theorem dLW_law_411 : decode cLW_law 411 = .ok (.invokevirtual 72, 3) := by decide +kernel
theorem dLW_law_414 : decode cLW_law 414 = .ok (.aload_n 2, 1) := by decide +kernel
theorem dLW_law_415 : decode cLW_law 415 = .ok (.aload_n 0, 1) := by decide +kernel
theorem dLW_law_416 : decode cLW_law 416 = .ok (.iload 4, 2) := by decide +kernel
theorem dLW_law_418 : decode cLW_law 418 = .ok (.iconst 1, 1) := by decide +kernel
theorem dLW_law_419 : decode cLW_law 419 = .ok (.iadd, 1) := by decide +kernel
theorem dLW_law_420 : decode cLW_law 420 = .ok (.iaload, 1) := by decide +kernel
theorem dLW_law_421 : decode cLW_law 421 = .ok (.aload_n 0, 1) := by decide +kernel
theorem dLW_law_422 : decode cLW_law 422 = .ok (.iload 4, 2) := by decide +kernel
theorem dLW_law_424 : decode cLW_law 424 = .ok (.iconst 2, 1) := by decide +kernel
theorem dLW_law_425 : decode cLW_law 425 = .ok (.iadd, 1) := by decide +kernel
theorem dLW_law_426 : decode cLW_law 426 = .ok (.iaload, 1) := by decide +kernel
theorem dLW_law_427 : decode cLW_law 427 = .ok (.aload_n 0, 1) := by decide +kernel
theorem dLW_law_428 : decode cLW_law 428 = .ok (.iload 4, 2) := by decide +kernel
theorem dLW_law_430 : decode cLW_law 430 = .ok (.iconst 3, 1) := by decide +kernel
theorem dLW_law_431 : decode cLW_law 431 = .ok (.iadd, 1) := by decide +kernel
theorem dLW_law_432 : decode cLW_law 432 = .ok (.iaload, 1) := by decide +kernel
theorem dLW_law_433 : decode cLW_law 433 = .ok (.i2l, 1) := by decide +kernel
theorem dLW_law_434 : decode cLW_law 434 = .ok (.bipush 32, 2) := by decide +kernel
theorem dLW_law_436 : decode cLW_law 436 = .ok (.lshl, 1) := by decide +kernel
theorem dLW_law_437 : decode cLW_law 437 = .ok (.aload_n 0, 1) := by decide +kernel
theorem dLW_law_438 : decode cLW_law 438 = .ok (.iload 4, 2) := by decide +kernel
theorem dLW_law_440 : decode cLW_law 440 = .ok (.iconst 4, 1) := by decide +kernel
theorem dLW_law_441 : decode cLW_law 441 = .ok (.iadd, 1) := by decide +kernel
theorem dLW_law_442 : decode cLW_law 442 = .ok (.iaload, 1) := by decide +kernel
theorem dLW_law_443 : decode cLW_law 443 = .ok (.i2l, 1) := by decide +kernel
theorem dLW_law_444 : decode cLW_law 444 = .ok (.ldc2_w 41, 3) := by decide +kernel
theorem dLW_law_447 : decode cLW_law 447 = .ok (.land, 1) := by decide +kernel
theorem dLW_law_448 : decode cLW_law 448 = .ok (.lor, 1) := by decide +kernel
theorem dLW_law_449 : decode cLW_law 449 = .ok (.invokevirtual 76, 3) := by decide +kernel
theorem dLW_law_452 : decode cLW_law 452 = .ok (.lcmp, 1) := by decide +kernel
theorem dLW_law_453 : decode cLW_law 453 = .ok (.ifCond .eq 449, 3) := by decide +kernel
theorem dLW_law_456 : decode cLW_law 456 = .ok (.iconst 0, 1) := by decide +kernel
theorem dLW_law_457 : decode cLW_law 457 = .ok (.ireturn, 1) := by decide +kernel
theorem dLW_law_458 : decode cLW_law 458 = .ok (.aload_n 1, 1) := by decide +kernel
theorem dLW_law_459 : decode cLW_law 459 = .ok (.aload_n 0, 1) := by decide +kernel
theorem dLW_law_460 : decode cLW_law 460 = .ok (.iload 4, 2) := by decide +kernel
theorem dLW_law_462 : decode cLW_law 462 = .ok (.iconst 1, 1) := by decide +kernel
theorem dLW_law_463 : decode cLW_law 463 = .ok (.iadd, 1) := by decide +kernel
theorem dLW_law_464 : decode cLW_law 464 = .ok (.iaload, 1) := by decide +kernel
theorem dLW_law_465 : decode cLW_law 465 = .ok (.aload_n 0, 1) := by decide +kernel
theorem dLW_law_466 : decode cLW_law 466 = .ok (.iload 4, 2) := by decide +kernel
theorem dLW_law_468 : decode cLW_law 468 = .ok (.iconst 2, 1) := by decide +kernel
theorem dLW_law_469 : decode cLW_law 469 = .ok (.iadd, 1) := by decide +kernel
theorem dLW_law_470 : decode cLW_law 470 = .ok (.iaload, 1) := by decide +kernel
theorem dLW_law_471 : decode cLW_law 471 = .ok (.aload_n 0, 1) := by decide +kernel
theorem dLW_law_472 : decode cLW_law 472 = .ok (.iload 4, 2) := by decide +kernel
theorem dLW_law_474 : decode cLW_law 474 = .ok (.iconst 3, 1) := by decide +kernel
theorem dLW_law_475 : decode cLW_law 475 = .ok (.iadd, 1) := by decide +kernel
theorem dLW_law_476 : decode cLW_law 476 = .ok (.iaload, 1) := by decide +kernel
theorem dLW_law_477 : decode cLW_law 477 = .ok (.i2l, 1) := by decide +kernel
theorem dLW_law_478 : decode cLW_law 478 = .ok (.bipush 32, 2) := by decide +kernel
theorem dLW_law_480 : decode cLW_law 480 = .ok (.lshl, 1) := by decide +kernel
theorem dLW_law_481 : decode cLW_law 481 = .ok (.aload_n 0, 1) := by decide +kernel
theorem dLW_law_482 : decode cLW_law 482 = .ok (.iload 4, 2) := by decide +kernel
theorem dLW_law_484 : decode cLW_law 484 = .ok (.iconst 4, 1) := by decide +kernel
theorem dLW_law_485 : decode cLW_law 485 = .ok (.iadd, 1) := by decide +kernel
theorem dLW_law_486 : decode cLW_law 486 = .ok (.iaload, 1) := by decide +kernel
theorem dLW_law_487 : decode cLW_law 487 = .ok (.i2l, 1) := by decide +kernel
theorem dLW_law_488 : decode cLW_law 488 = .ok (.ldc2_w 41, 3) := by decide +kernel
theorem dLW_law_491 : decode cLW_law 491 = .ok (.land, 1) := by decide +kernel
theorem dLW_law_492 : decode cLW_law 492 = .ok (.lor, 1) := by decide +kernel
theorem dLW_law_493 : decode cLW_law 493 = .ok (.invokevirtual 77, 3) := by decide +kernel
theorem dLW_law_496 : decode cLW_law 496 = .ok (.aload_n 2, 1) := by decide +kernel
theorem dLW_law_497 : decode cLW_law 497 = .ok (.aload_n 0, 1) := by decide +kernel
theorem dLW_law_498 : decode cLW_law 498 = .ok (.iload 4, 2) := by decide +kernel
theorem dLW_law_500 : decode cLW_law 500 = .ok (.iconst 1, 1) := by decide +kernel
theorem dLW_law_501 : decode cLW_law 501 = .ok (.iadd, 1) := by decide +kernel
theorem dLW_law_502 : decode cLW_law 502 = .ok (.iaload, 1) := by decide +kernel
theorem dLW_law_503 : decode cLW_law 503 = .ok (.aload_n 0, 1) := by decide +kernel
theorem dLW_law_504 : decode cLW_law 504 = .ok (.iload 4, 2) := by decide +kernel
theorem dLW_law_506 : decode cLW_law 506 = .ok (.iconst 2, 1) := by decide +kernel
theorem dLW_law_507 : decode cLW_law 507 = .ok (.iadd, 1) := by decide +kernel
theorem dLW_law_508 : decode cLW_law 508 = .ok (.iaload, 1) := by decide +kernel
theorem dLW_law_509 : decode cLW_law 509 = .ok (.aload_n 0, 1) := by decide +kernel
theorem dLW_law_510 : decode cLW_law 510 = .ok (.iload 4, 2) := by decide +kernel
theorem dLW_law_512 : decode cLW_law 512 = .ok (.iconst 3, 1) := by decide +kernel
theorem dLW_law_513 : decode cLW_law 513 = .ok (.iadd, 1) := by decide +kernel
theorem dLW_law_514 : decode cLW_law 514 = .ok (.iaload, 1) := by decide +kernel
theorem dLW_law_515 : decode cLW_law 515 = .ok (.i2l, 1) := by decide +kernel
theorem dLW_law_516 : decode cLW_law 516 = .ok (.bipush 32, 2) := by decide +kernel
theorem dLW_law_518 : decode cLW_law 518 = .ok (.lshl, 1) := by decide +kernel
theorem dLW_law_519 : decode cLW_law 519 = .ok (.aload_n 0, 1) := by decide +kernel
theorem dLW_law_520 : decode cLW_law 520 = .ok (.iload 4, 2) := by decide +kernel
theorem dLW_law_522 : decode cLW_law 522 = .ok (.iconst 4, 1) := by decide +kernel
theorem dLW_law_523 : decode cLW_law 523 = .ok (.iadd, 1) := by decide +kernel
theorem dLW_law_524 : decode cLW_law 524 = .ok (.iaload, 1) := by decide +kernel
theorem dLW_law_525 : decode cLW_law 525 = .ok (.i2l, 1) := by decide +kernel
theorem dLW_law_526 : decode cLW_law 526 = .ok (.ldc2_w 41, 3) := by decide +kernel
theorem dLW_law_529 : decode cLW_law 529 = .ok (.land, 1) := by decide +kernel
theorem dLW_law_530 : decode cLW_law 530 = .ok (.lor, 1) := by decide +kernel
theorem dLW_law_531 : decode cLW_law 531 = .ok (.invokevirtual 80, 3) := by decide +kernel
theorem dLW_law_534 : decode cLW_law 534 = .ok (.lcmp, 1) := by decide +kernel
theorem dLW_law_535 : decode cLW_law 535 = .ok (.ifCond .eq 367, 3) := by decide +kernel
theorem dLW_law_538 : decode cLW_law 538 = .ok (.iconst 0, 1) := by decide +kernel
theorem dLW_law_539 : decode cLW_law 539 = .ok (.ireturn, 1) := by decide +kernel
theorem dLW_law_540 : decode cLW_law 540 = .ok (.aload_n 1, 1) := by decide +kernel
theorem dLW_law_541 : decode cLW_law 541 = .ok (.aload_n 0, 1) := by decide +kernel
theorem dLW_law_542 : decode cLW_law 542 = .ok (.iload 4, 2) := by decide +kernel
theorem dLW_law_544 : decode cLW_law 544 = .ok (.iconst 1, 1) := by decide +kernel
theorem dLW_law_545 : decode cLW_law 545 = .ok (.iadd, 1) := by decide +kernel
theorem dLW_law_546 : decode cLW_law 546 = .ok (.iaload, 1) := by decide +kernel
theorem dLW_law_547 : decode cLW_law 547 = .ok (.aload_n 3, 1) := by decide +kernel
theorem dLW_law_548 : decode cLW_law 548 = .ok (.invokestatic 81, 3) := by decide +kernel
theorem dLW_law_551 : decode cLW_law 551 = .ok (.istore 5, 2) := by decide +kernel
theorem dLW_law_553 : decode cLW_law 553 = .ok (.aload_n 2, 1) := by decide +kernel
theorem dLW_law_554 : decode cLW_law 554 = .ok (.aload_n 0, 1) := by decide +kernel
theorem dLW_law_555 : decode cLW_law 555 = .ok (.iload 4, 2) := by decide +kernel
theorem dLW_law_557 : decode cLW_law 557 = .ok (.iconst 1, 1) := by decide +kernel
theorem dLW_law_558 : decode cLW_law 558 = .ok (.iadd, 1) := by decide +kernel
theorem dLW_law_559 : decode cLW_law 559 = .ok (.iaload, 1) := by decide +kernel
theorem dLW_law_560 : decode cLW_law 560 = .ok (.invokevirtual 83, 3) := by decide +kernel
theorem dLW_law_563 : decode cLW_law 563 = .ok (.lstore 6, 2) := by decide +kernel
theorem dLW_law_565 : decode cLW_law 565 = .ok (.aload_n 2, 1) := by decide +kernel
theorem dLW_law_566 : decode cLW_law 566 = .ok (.invokevirtual 64, 3) := by decide +kernel
theorem dLW_law_569 : decode cLW_law 569 = .ok (.iload 5, 2) := by decide +kernel
theorem dLW_law_571 : decode cLW_law 571 = .ok (.if_icmp .eq 5, 3) := by decide +kernel
theorem dLW_law_574 : decode cLW_law 574 = .ok (.iconst 0, 1) := by decide +kernel
theorem dLW_law_575 : decode cLW_law 575 = .ok (.ireturn, 1) := by decide +kernel
theorem dLW_law_576 : decode cLW_law 576 = .ok (.iload 5, 2) := by decide +kernel
theorem dLW_law_578 : decode cLW_law 578 = .ok (.ifCond .ne 14, 3) := by decide +kernel
theorem dLW_law_581 : decode cLW_law 581 = .ok (.aload_n 3, 1) := by decide +kernel
theorem dLW_law_582 : decode cLW_law 582 = .ok (.iconst 0, 1) := by decide +kernel
theorem dLW_law_583 : decode cLW_law 583 = .ok (.laload, 1) := by decide +kernel
theorem dLW_law_584 : decode cLW_law 584 = .ok (.lload 6, 2) := by decide +kernel
theorem dLW_law_586 : decode cLW_law 586 = .ok (.lcmp, 1) := by decide +kernel
theorem dLW_law_587 : decode cLW_law 587 = .ok (.ifCond .eq 5, 3) := by decide +kernel
theorem dLW_law_590 : decode cLW_law 590 = .ok (.iconst 0, 1) := by decide +kernel
theorem dLW_law_591 : decode cLW_law 591 = .ok (.ireturn, 1) := by decide +kernel
theorem dLW_law_592 : decode cLW_law 592 = .ok (.goto 310, 3) := by decide +kernel
theorem dLW_law_595 : decode cLW_law 595 = .ok (.aload_n 1, 1) := by decide +kernel
theorem dLW_law_596 : decode cLW_law 596 = .ok (.aload_n 0, 1) := by decide +kernel
theorem dLW_law_597 : decode cLW_law 597 = .ok (.iload 4, 2) := by decide +kernel
theorem dLW_law_599 : decode cLW_law 599 = .ok (.iconst 1, 1) := by decide +kernel
theorem dLW_law_600 : decode cLW_law 600 = .ok (.iadd, 1) := by decide +kernel
theorem dLW_law_601 : decode cLW_law 601 = .ok (.iaload, 1) := by decide +kernel
theorem dLW_law_602 : decode cLW_law 602 = .ok (.invokevirtual 84, 3) := by decide +kernel
theorem dLW_law_605 : decode cLW_law 605 = .ok (.aload_n 2, 1) := by decide +kernel
theorem dLW_law_606 : decode cLW_law 606 = .ok (.aload_n 0, 1) := by decide +kernel
theorem dLW_law_607 : decode cLW_law 607 = .ok (.iload 4, 2) := by decide +kernel
theorem dLW_law_609 : decode cLW_law 609 = .ok (.iconst 1, 1) := by decide +kernel
theorem dLW_law_610 : decode cLW_law 610 = .ok (.iadd, 1) := by decide +kernel
theorem dLW_law_611 : decode cLW_law 611 = .ok (.iaload, 1) := by decide +kernel
theorem dLW_law_612 : decode cLW_law 612 = .ok (.invokevirtual 87, 3) := by decide +kernel
theorem dLW_law_615 : decode cLW_law 615 = .ok (.if_icmp .eq 287, 3) := by decide +kernel
theorem dLW_law_618 : decode cLW_law 618 = .ok (.iconst 0, 1) := by decide +kernel
theorem dLW_law_619 : decode cLW_law 619 = .ok (.ireturn, 1) := by decide +kernel
theorem dLW_law_620 : decode cLW_law 620 = .ok (.aload_n 1, 1) := by decide +kernel
theorem dLW_law_621 : decode cLW_law 621 = .ok (.aload_n 0, 1) := by decide +kernel
theorem dLW_law_622 : decode cLW_law 622 = .ok (.iload 4, 2) := by decide +kernel
theorem dLW_law_624 : decode cLW_law 624 = .ok (.iconst 1, 1) := by decide +kernel
theorem dLW_law_625 : decode cLW_law 625 = .ok (.iadd, 1) := by decide +kernel
theorem dLW_law_626 : decode cLW_law 626 = .ok (.iaload, 1) := by decide +kernel
theorem dLW_law_627 : decode cLW_law 627 = .ok (.aload_n 0, 1) := by decide +kernel
theorem dLW_law_628 : decode cLW_law 628 = .ok (.iload 4, 2) := by decide +kernel
theorem dLW_law_630 : decode cLW_law 630 = .ok (.iconst 2, 1) := by decide +kernel
theorem dLW_law_631 : decode cLW_law 631 = .ok (.iadd, 1) := by decide +kernel
theorem dLW_law_632 : decode cLW_law 632 = .ok (.iaload, 1) := by decide +kernel
theorem dLW_law_633 : decode cLW_law 633 = .ok (.aload_n 3, 1) := by decide +kernel
theorem dLW_law_634 : decode cLW_law 634 = .ok (.invokestatic 88, 3) := by decide +kernel
theorem dLW_law_637 : decode cLW_law 637 = .ok (.istore 5, 2) := by decide +kernel
theorem dLW_law_639 : decode cLW_law 639 = .ok (.aload_n 2, 1) := by decide +kernel
theorem dLW_law_640 : decode cLW_law 640 = .ok (.aload_n 0, 1) := by decide +kernel
theorem dLW_law_641 : decode cLW_law 641 = .ok (.iload 4, 2) := by decide +kernel
theorem dLW_law_643 : decode cLW_law 643 = .ok (.iconst 1, 1) := by decide +kernel
theorem dLW_law_644 : decode cLW_law 644 = .ok (.iadd, 1) := by decide +kernel
theorem dLW_law_645 : decode cLW_law 645 = .ok (.iaload, 1) := by decide +kernel
theorem dLW_law_646 : decode cLW_law 646 = .ok (.aload_n 0, 1) := by decide +kernel
theorem dLW_law_647 : decode cLW_law 647 = .ok (.iload 4, 2) := by decide +kernel
theorem dLW_law_649 : decode cLW_law 649 = .ok (.iconst 2, 1) := by decide +kernel
theorem dLW_law_650 : decode cLW_law 650 = .ok (.iadd, 1) := by decide +kernel
theorem dLW_law_651 : decode cLW_law 651 = .ok (.iaload, 1) := by decide +kernel
theorem dLW_law_652 : decode cLW_law 652 = .ok (.invokevirtual 91, 3) := by decide +kernel
theorem dLW_law_655 : decode cLW_law 655 = .ok (.istore 6, 2) := by decide +kernel
theorem dLW_law_657 : decode cLW_law 657 = .ok (.aload_n 2, 1) := by decide +kernel
theorem dLW_law_658 : decode cLW_law 658 = .ok (.invokevirtual 64, 3) := by decide +kernel
theorem dLW_law_661 : decode cLW_law 661 = .ok (.iload 5, 2) := by decide +kernel
theorem dLW_law_663 : decode cLW_law 663 = .ok (.if_icmp .eq 5, 3) := by decide +kernel
theorem dLW_law_666 : decode cLW_law 666 = .ok (.iconst 0, 1) := by decide +kernel
theorem dLW_law_667 : decode cLW_law 667 = .ok (.ireturn, 1) := by decide +kernel
theorem dLW_law_668 : decode cLW_law 668 = .ok (.iload 5, 2) := by decide +kernel
theorem dLW_law_670 : decode cLW_law 670 = .ok (.ifCond .ne 15, 3) := by decide +kernel
theorem dLW_law_673 : decode cLW_law 673 = .ok (.aload_n 3, 1) := by decide +kernel
theorem dLW_law_674 : decode cLW_law 674 = .ok (.iconst 0, 1) := by decide +kernel
theorem dLW_law_675 : decode cLW_law 675 = .ok (.laload, 1) := by decide +kernel
theorem dLW_law_676 : decode cLW_law 676 = .ok (.iload 6, 2) := by decide +kernel
theorem dLW_law_678 : decode cLW_law 678 = .ok (.i2l, 1) := by decide +kernel
theorem dLW_law_679 : decode cLW_law 679 = .ok (.lcmp, 1) := by decide +kernel
theorem dLW_law_680 : decode cLW_law 680 = .ok (.ifCond .eq 5, 3) := by decide +kernel
theorem dLW_law_683 : decode cLW_law 683 = .ok (.iconst 0, 1) := by decide +kernel
theorem dLW_law_684 : decode cLW_law 684 = .ok (.ireturn, 1) := by decide +kernel
theorem dLW_law_685 : decode cLW_law 685 = .ok (.goto 217, 3) := by decide +kernel
theorem dLW_law_688 : decode cLW_law 688 = .ok (.aload_n 1, 1) := by decide +kernel
theorem dLW_law_689 : decode cLW_law 689 = .ok (.aload_n 0, 1) := by decide +kernel
theorem dLW_law_690 : decode cLW_law 690 = .ok (.iload 4, 2) := by decide +kernel
theorem dLW_law_692 : decode cLW_law 692 = .ok (.iconst 1, 1) := by decide +kernel
theorem dLW_law_693 : decode cLW_law 693 = .ok (.iadd, 1) := by decide +kernel
theorem dLW_law_694 : decode cLW_law 694 = .ok (.iaload, 1) := by decide +kernel
theorem dLW_law_695 : decode cLW_law 695 = .ok (.aload_n 0, 1) := by decide +kernel
theorem dLW_law_696 : decode cLW_law 696 = .ok (.iload 4, 2) := by decide +kernel
theorem dLW_law_698 : decode cLW_law 698 = .ok (.iconst 2, 1) := by decide +kernel
theorem dLW_law_699 : decode cLW_law 699 = .ok (.iadd, 1) := by decide +kernel
theorem dLW_law_700 : decode cLW_law 700 = .ok (.iaload, 1) := by decide +kernel
theorem dLW_law_701 : decode cLW_law 701 = .ok (.aload_n 3, 1) := by decide +kernel
theorem dLW_law_702 : decode cLW_law 702 = .ok (.invokestatic 92, 3) := by decide +kernel
theorem dLW_law_705 : decode cLW_law 705 = .ok (.istore 5, 2) := by decide +kernel
theorem dLW_law_707 : decode cLW_law 707 = .ok (.aload_n 2, 1) := by decide +kernel
theorem dLW_law_708 : decode cLW_law 708 = .ok (.aload_n 0, 1) := by decide +kernel
theorem dLW_law_709 : decode cLW_law 709 = .ok (.iload 4, 2) := by decide +kernel
theorem dLW_law_711 : decode cLW_law 711 = .ok (.iconst 1, 1) := by decide +kernel
theorem dLW_law_712 : decode cLW_law 712 = .ok (.iadd, 1) := by decide +kernel
theorem dLW_law_713 : decode cLW_law 713 = .ok (.iaload, 1) := by decide +kernel
theorem dLW_law_714 : decode cLW_law 714 = .ok (.aload_n 0, 1) := by decide +kernel
theorem dLW_law_715 : decode cLW_law 715 = .ok (.iload 4, 2) := by decide +kernel
theorem dLW_law_717 : decode cLW_law 717 = .ok (.iconst 2, 1) := by decide +kernel
theorem dLW_law_718 : decode cLW_law 718 = .ok (.iadd, 1) := by decide +kernel
theorem dLW_law_719 : decode cLW_law 719 = .ok (.iaload, 1) := by decide +kernel
theorem dLW_law_720 : decode cLW_law 720 = .ok (.invokevirtual 94, 3) := by decide +kernel
theorem dLW_law_723 : decode cLW_law 723 = .ok (.lstore 6, 2) := by decide +kernel
theorem dLW_law_725 : decode cLW_law 725 = .ok (.aload_n 2, 1) := by decide +kernel
theorem dLW_law_726 : decode cLW_law 726 = .ok (.invokevirtual 64, 3) := by decide +kernel
theorem dLW_law_729 : decode cLW_law 729 = .ok (.iload 5, 2) := by decide +kernel
theorem dLW_law_731 : decode cLW_law 731 = .ok (.if_icmp .eq 5, 3) := by decide +kernel
theorem dLW_law_734 : decode cLW_law 734 = .ok (.iconst 0, 1) := by decide +kernel
theorem dLW_law_735 : decode cLW_law 735 = .ok (.ireturn, 1) := by decide +kernel
theorem dLW_law_736 : decode cLW_law 736 = .ok (.iload 5, 2) := by decide +kernel
theorem dLW_law_738 : decode cLW_law 738 = .ok (.ifCond .ne 14, 3) := by decide +kernel
theorem dLW_law_741 : decode cLW_law 741 = .ok (.aload_n 3, 1) := by decide +kernel
theorem dLW_law_742 : decode cLW_law 742 = .ok (.iconst 0, 1) := by decide +kernel
theorem dLW_law_743 : decode cLW_law 743 = .ok (.laload, 1) := by decide +kernel
theorem dLW_law_744 : decode cLW_law 744 = .ok (.lload 6, 2) := by decide +kernel
theorem dLW_law_746 : decode cLW_law 746 = .ok (.lcmp, 1) := by decide +kernel
theorem dLW_law_747 : decode cLW_law 747 = .ok (.ifCond .eq 5, 3) := by decide +kernel
theorem dLW_law_750 : decode cLW_law 750 = .ok (.iconst 0, 1) := by decide +kernel
theorem dLW_law_751 : decode cLW_law 751 = .ok (.ireturn, 1) := by decide +kernel
theorem dLW_law_752 : decode cLW_law 752 = .ok (.goto 150, 3) := by decide +kernel
theorem dLW_law_755 : decode cLW_law 755 = .ok (.aload_n 1, 1) := by decide +kernel
theorem dLW_law_756 : decode cLW_law 756 = .ok (.aload_n 0, 1) := by decide +kernel
theorem dLW_law_757 : decode cLW_law 757 = .ok (.iload 4, 2) := by decide +kernel
theorem dLW_law_759 : decode cLW_law 759 = .ok (.iconst 1, 1) := by decide +kernel
theorem dLW_law_760 : decode cLW_law 760 = .ok (.iadd, 1) := by decide +kernel
theorem dLW_law_761 : decode cLW_law 761 = .ok (.iaload, 1) := by decide +kernel
theorem dLW_law_762 : decode cLW_law 762 = .ok (.aload_n 0, 1) := by decide +kernel
theorem dLW_law_763 : decode cLW_law 763 = .ok (.iload 4, 2) := by decide +kernel
theorem dLW_law_765 : decode cLW_law 765 = .ok (.iconst 2, 1) := by decide +kernel
theorem dLW_law_766 : decode cLW_law 766 = .ok (.iadd, 1) := by decide +kernel
theorem dLW_law_767 : decode cLW_law 767 = .ok (.iaload, 1) := by decide +kernel
theorem dLW_law_768 : decode cLW_law 768 = .ok (.aload_n 3, 1) := by decide +kernel
theorem dLW_law_769 : decode cLW_law 769 = .ok (.invokestatic 95, 3) := by decide +kernel
theorem dLW_law_772 : decode cLW_law 772 = .ok (.istore 5, 2) := by decide +kernel
theorem dLW_law_774 : decode cLW_law 774 = .ok (.aload_n 2, 1) := by decide +kernel
theorem dLW_law_775 : decode cLW_law 775 = .ok (.aload_n 0, 1) := by decide +kernel
theorem dLW_law_776 : decode cLW_law 776 = .ok (.iload 4, 2) := by decide +kernel
theorem dLW_law_778 : decode cLW_law 778 = .ok (.iconst 1, 1) := by decide +kernel
theorem dLW_law_779 : decode cLW_law 779 = .ok (.iadd, 1) := by decide +kernel
theorem dLW_law_780 : decode cLW_law 780 = .ok (.iaload, 1) := by decide +kernel
theorem dLW_law_781 : decode cLW_law 781 = .ok (.aload_n 0, 1) := by decide +kernel
theorem dLW_law_782 : decode cLW_law 782 = .ok (.iload 4, 2) := by decide +kernel
theorem dLW_law_784 : decode cLW_law 784 = .ok (.iconst 2, 1) := by decide +kernel
theorem dLW_law_785 : decode cLW_law 785 = .ok (.iadd, 1) := by decide +kernel
theorem dLW_law_786 : decode cLW_law 786 = .ok (.iaload, 1) := by decide +kernel
theorem dLW_law_787 : decode cLW_law 787 = .ok (.invokevirtual 97, 3) := by decide +kernel
theorem dLW_law_790 : decode cLW_law 790 = .ok (.lstore 6, 2) := by decide +kernel
theorem dLW_law_792 : decode cLW_law 792 = .ok (.aload_n 2, 1) := by decide +kernel
theorem dLW_law_793 : decode cLW_law 793 = .ok (.invokevirtual 64, 3) := by decide +kernel
theorem dLW_law_796 : decode cLW_law 796 = .ok (.iload 5, 2) := by decide +kernel
theorem dLW_law_798 : decode cLW_law 798 = .ok (.if_icmp .eq 5, 3) := by decide +kernel
theorem dLW_law_801 : decode cLW_law 801 = .ok (.iconst 0, 1) := by decide +kernel
theorem dLW_law_802 : decode cLW_law 802 = .ok (.ireturn, 1) := by decide +kernel
theorem dLW_law_803 : decode cLW_law 803 = .ok (.iload 5, 2) := by decide +kernel
theorem dLW_law_805 : decode cLW_law 805 = .ok (.ifCond .ne 14, 3) := by decide +kernel
theorem dLW_law_808 : decode cLW_law 808 = .ok (.aload_n 3, 1) := by decide +kernel
theorem dLW_law_809 : decode cLW_law 809 = .ok (.iconst 0, 1) := by decide +kernel
theorem dLW_law_810 : decode cLW_law 810 = .ok (.laload, 1) := by decide +kernel
theorem dLW_law_811 : decode cLW_law 811 = .ok (.lload 6, 2) := by decide +kernel
theorem dLW_law_813 : decode cLW_law 813 = .ok (.lcmp, 1) := by decide +kernel
theorem dLW_law_814 : decode cLW_law 814 = .ok (.ifCond .eq 5, 3) := by decide +kernel
theorem dLW_law_817 : decode cLW_law 817 = .ok (.iconst 0, 1) := by decide +kernel
theorem dLW_law_818 : decode cLW_law 818 = .ok (.ireturn, 1) := by decide +kernel
theorem dLW_law_819 : decode cLW_law 819 = .ok (.goto 83, 3) := by decide +kernel
theorem dLW_law_822 : decode cLW_law 822 = .ok (.aload_n 1, 1) := by decide +kernel
theorem dLW_law_823 : decode cLW_law 823 = .ok (.aload_n 0, 1) := by decide +kernel
theorem dLW_law_824 : decode cLW_law 824 = .ok (.iload 4, 2) := by decide +kernel
theorem dLW_law_826 : decode cLW_law 826 = .ok (.iconst 1, 1) := by decide +kernel
theorem dLW_law_827 : decode cLW_law 827 = .ok (.iadd, 1) := by decide +kernel
theorem dLW_law_828 : decode cLW_law 828 = .ok (.iaload, 1) := by decide +kernel
theorem dLW_law_829 : decode cLW_law 829 = .ok (.aload_n 0, 1) := by decide +kernel
theorem dLW_law_830 : decode cLW_law 830 = .ok (.iload 4, 2) := by decide +kernel
theorem dLW_law_832 : decode cLW_law 832 = .ok (.iconst 2, 1) := by decide +kernel
theorem dLW_law_833 : decode cLW_law 833 = .ok (.iadd, 1) := by decide +kernel
theorem dLW_law_834 : decode cLW_law 834 = .ok (.iaload, 1) := by decide +kernel
theorem dLW_law_835 : decode cLW_law 835 = .ok (.aload_n 3, 1) := by decide +kernel
theorem dLW_law_836 : decode cLW_law 836 = .ok (.invokestatic 98, 3) := by decide +kernel
theorem dLW_law_839 : decode cLW_law 839 = .ok (.istore 5, 2) := by decide +kernel
theorem dLW_law_841 : decode cLW_law 841 = .ok (.aload_n 2, 1) := by decide +kernel
theorem dLW_law_842 : decode cLW_law 842 = .ok (.aload_n 0, 1) := by decide +kernel
theorem dLW_law_843 : decode cLW_law 843 = .ok (.iload 4, 2) := by decide +kernel
theorem dLW_law_845 : decode cLW_law 845 = .ok (.iconst 1, 1) := by decide +kernel
theorem dLW_law_846 : decode cLW_law 846 = .ok (.iadd, 1) := by decide +kernel
theorem dLW_law_847 : decode cLW_law 847 = .ok (.iaload, 1) := by decide +kernel
theorem dLW_law_848 : decode cLW_law 848 = .ok (.aload_n 0, 1) := by decide +kernel
theorem dLW_law_849 : decode cLW_law 849 = .ok (.iload 4, 2) := by decide +kernel
theorem dLW_law_851 : decode cLW_law 851 = .ok (.iconst 2, 1) := by decide +kernel
theorem dLW_law_852 : decode cLW_law 852 = .ok (.iadd, 1) := by decide +kernel
theorem dLW_law_853 : decode cLW_law 853 = .ok (.iaload, 1) := by decide +kernel
theorem dLW_law_854 : decode cLW_law 854 = .ok (.invokevirtual 100, 3) := by decide +kernel
theorem dLW_law_857 : decode cLW_law 857 = .ok (.lstore 6, 2) := by decide +kernel
theorem dLW_law_859 : decode cLW_law 859 = .ok (.aload_n 2, 1) := by decide +kernel
theorem dLW_law_860 : decode cLW_law 860 = .ok (.invokevirtual 64, 3) := by decide +kernel
theorem dLW_law_863 : decode cLW_law 863 = .ok (.iload 5, 2) := by decide +kernel
theorem dLW_law_865 : decode cLW_law 865 = .ok (.if_icmp .eq 5, 3) := by decide +kernel
theorem dLW_law_868 : decode cLW_law 868 = .ok (.iconst 0, 1) := by decide +kernel
theorem dLW_law_869 : decode cLW_law 869 = .ok (.ireturn, 1) := by decide +kernel
theorem dLW_law_870 : decode cLW_law 870 = .ok (.iload 5, 2) := by decide +kernel
theorem dLW_law_872 : decode cLW_law 872 = .ok (.ifCond .ne 14, 3) := by decide +kernel
theorem dLW_law_875 : decode cLW_law 875 = .ok (.aload_n 3, 1) := by decide +kernel
theorem dLW_law_876 : decode cLW_law 876 = .ok (.iconst 0, 1) := by decide +kernel
theorem dLW_law_877 : decode cLW_law 877 = .ok (.laload, 1) := by decide +kernel
theorem dLW_law_878 : decode cLW_law 878 = .ok (.lload 6, 2) := by decide +kernel
theorem dLW_law_880 : decode cLW_law 880 = .ok (.lcmp, 1) := by decide +kernel
theorem dLW_law_881 : decode cLW_law 881 = .ok (.ifCond .eq 5, 3) := by decide +kernel
theorem dLW_law_884 : decode cLW_law 884 = .ok (.iconst 0, 1) := by decide +kernel
theorem dLW_law_885 : decode cLW_law 885 = .ok (.ireturn, 1) := by decide +kernel
theorem dLW_law_886 : decode cLW_law 886 = .ok (.goto 16, 3) := by decide +kernel
theorem dLW_law_889 : decode cLW_law 889 = .ok (.aload_n 1, 1) := by decide +kernel
theorem dLW_law_890 : decode cLW_law 890 = .ok (.invokevirtual 101, 3) := by decide +kernel
theorem dLW_law_893 : decode cLW_law 893 = .ok (.aload_n 2, 1) := by decide +kernel
theorem dLW_law_894 : decode cLW_law 894 = .ok (.invokevirtual 105, 3) := by decide +kernel
theorem dLW_law_897 : decode cLW_law 897 = .ok (.if_icmp .eq 5, 3) := by decide +kernel
theorem dLW_law_900 : decode cLW_law 900 = .ok (.iconst 0, 1) := by decide +kernel
theorem dLW_law_901 : decode cLW_law 901 = .ok (.ireturn, 1) := by decide +kernel
theorem dLW_law_902 : decode cLW_law 902 = .ok (.iinc 4 5, 3) := by decide +kernel
theorem dLW_law_905 : decode cLW_law 905 = .ok (.goto (-882), 3) := by decide +kernel
theorem dLW_law_908 : decode cLW_law 908 = .ok (.iconst 1, 1) := by decide +kernel
theorem dLW_law_909 : decode cLW_law 909 = .ok (.ireturn, 1) := by decide +kernel
end
section
/-! ===== facts of the state that stay through all calls ===== -/
def wsNl : List (String × Nat × MethodName × String) := [(RPD, 9, yDK_init, "PortDesk"), (RDK, 11, yNU_init, "PortDesk"), (RDK, 20, yPT_init, "PortDesk"), (RDK, 34, yCV_init, "PortDesk"), (RDK, 41, yJN_init, "PortDesk"), (RDK, 66, yPD_isPart, "PortDesk")]
def exL : List String := ["java/lang/IllegalStateException", "java/lang/IllegalArgumentException", "java/lang/IndexOutOfBoundsException", "java/lang/ArithmeticException", "java/lang/UnsupportedOperationException"]
def strL : List (String × Nat × String) := [(RPT, 30, "the part's state"), (RPT, 37, "the part's argument"), (RPT, 42, "the part's place"), (RPT, 47, "the part's division by 0"), (RPT, 52, "the part's own failure"), (RPD, 59, "no such kind"), (RPD, 73, "all numbers of this kind are made"), (RPD, 93, "nothing such is told"), (RPD, 116, "none such is collected"), (RPD, 138, "no such entry is kept"), (RPD, 143, "no such desk or part")]
def ncL : List (String × String) := [("java/lang/IllegalStateException", "java/lang/IllegalArgumentException"), ("java/lang/IllegalStateException", "java/lang/IndexOutOfBoundsException"), ("java/lang/IllegalStateException", "java/lang/ArithmeticException"), ("java/lang/IllegalStateException", "java/lang/UnsupportedOperationException"), ("java/lang/IllegalArgumentException", "java/lang/IllegalStateException"), ("java/lang/IllegalArgumentException", "java/lang/IndexOutOfBoundsException"), ("java/lang/IllegalArgumentException", "java/lang/ArithmeticException"), ("java/lang/IllegalArgumentException", "java/lang/UnsupportedOperationException"), ("java/lang/IndexOutOfBoundsException", "java/lang/IllegalStateException"), ("java/lang/IndexOutOfBoundsException", "java/lang/IllegalArgumentException"), ("java/lang/IndexOutOfBoundsException", "java/lang/ArithmeticException"), ("java/lang/IndexOutOfBoundsException", "java/lang/UnsupportedOperationException"), ("java/lang/ArithmeticException", "java/lang/IllegalStateException"), ("java/lang/ArithmeticException", "java/lang/IllegalArgumentException"), ("java/lang/ArithmeticException", "java/lang/IndexOutOfBoundsException"), ("java/lang/ArithmeticException", "java/lang/UnsupportedOperationException"), ("java/lang/UnsupportedOperationException", "java/lang/IllegalStateException"), ("java/lang/UnsupportedOperationException", "java/lang/IllegalArgumentException"), ("java/lang/UnsupportedOperationException", "java/lang/IndexOutOfBoundsException"), ("java/lang/UnsupportedOperationException", "java/lang/ArithmeticException")]
def k_F (A : Nat → Prop) (U : State) : Prop :=
  (∀ q ∈ wsNl, va_Nw (.methodLinkNest q.1 q.2.1 q.2.2.1 q.2.2.2) U) ∧ (∀ q ∈ exL, va_Nw (.castable q q) U) ∧ (∀ q ∈ strL, ∃ a : Nat, vk_R q.1 q.2.1 q.2.2 a U) ∧ (∀ q ∈ ncL, va_Nc q.1 q.2 U) ∧
  (va_Zq Bundle.tN "UNASSIGNED_STACK" Bundle.steD A U U.heap ∧ va_Zq Bundle.tN "SUPPRESSED_SENTINEL" Bundle.listD A U U.heap) ∧
  ((Cond.laysStatic Bundle.tN "UNASSIGNED_STACK" Bundle.steD).before #[] U = true ∧ (Cond.laysStatic Bundle.tN "SUPPRESSED_SENTINEL" Bundle.listD).before #[] U = true ∧ (Cond.arrayOver (.array .long)).before #[] U = true) ∧
  (∀ q : Nat, A q → ∀ cell : Cell, U.heap[q]? = some cell → cell.vm.isStatics = false)
theorem k_lay {C n d : String} {s U : State} {args args' : Array Value} (hal : s.vm.Alike U.vm) (hk : ∀ (a : Nat) (cell : Cell), s.heap[a]? = some cell → cell.vm.isStatics = true → U.heap[a]? = some cell) (h : (Cond.laysStatic C n d).before args s = true) : (Cond.laysStatic C n d).before args' U = true := by
  obtain ⟨c, k, i, f, a, cell, h1, h2, h3, h4, h5, h6, h7, h8, h9⟩ := Cond.laysStatic_spec h
  obtain ⟨k', hi', he⟩ := State.fieldFound?_setVm hal h2
  show (Cond.laysStatic C n d).holds args' U none U [] = true
  exact Cond.laysStatic_of (by rw [hal.findClass]; exact h1) hi' h3 (by rw [he]; exact h4) (hk a cell h5 h6) h6 h7 h8 (by rw [he]; exact h9)
theorem k_over {ty : FieldType} {s U : State} {args args' : Array Value} (hal : s.vm.Alike U.vm) (h : (Cond.arrayOver ty).before args s = true) : (Cond.arrayOver ty).before args' U = true := by
  have h1 := Cond.arrayOver_setVmC (args := args) hal ty
  rw [h] at h1
  exact h1
theorem k_isR {C n d : String} {A : Nat → Prop} {s : State} {args : Array Value} (h : va_Zq C n d A s s.heap) : (Cond.isRef (.static C n d)).before args s = true := by
  have one : ∀ v : Value, v.isRef = true → va_Z C n d v A s s.heap → (Cond.isRef (.static C n d)).before args s = true := by
    intro v hv h
    obtain ⟨cf, kf, fi, f, a, cell, h1, h2, h3, h4, h5, h6, h7, -⟩ := h
    have he : (Term.static C n d).eval args s none [] s = some v := by simp [Term.eval, State.fieldNamed?, h1, h2, h4, h5, h6, h7]
    simp only [Cond.before, Cond.holds, Cond.value, he]
    cases v <;> simp_all [Value.isRef]
  rcases h with h | ⟨t, h⟩
  · exact one _ rfl h
  · exact one _ rfl h
theorem k_ns {D : va_G} {cl : List vw_C} {w : va_W} {H : Heap} (hP : va_P D cl w H) (q : Nat) (h : va_A w H.size q) (cell : Cell) (hc : H[q]? = some cell) : cell.vm.isStatics = false := by
  rcases h with ⟨k, e, h⟩ | h
  · have h1 := hP k (q, e) h
    cases e with
    | inl a =>
      have h2 : H[q]? = some (vp_cell a.1 a.2) := h1
      rw [hc] at h2
      have h3 : cell = vp_cell a.1 a.2 := Option.some.inj h2
      obtain ⟨ci, n, f⟩ := a
      subst h3
      rcases f with f | f | f | f | f <;> rfl
    | inr o =>
      obtain ⟨r, -, c2, h2, -, h4, -⟩ := h1
      have h2 : H[q]? = some c2 := h2
      rw [hc] at h2
      cases h2
      rw [h4]; rfl
  · rw [Array.getElem?_eq_none h] at hc
    cases hc
theorem k_F.go {A B : Nat → Prop} {s U : State} {H : Heap} {locs : List Loc} (h : k_F A s) (hS : va_S A s.heap H locs) (hB : ∀ q, B q → A q) (hU : U.heap = H) (hW : s.WarmedH U.vm) (hBs : ∀ q : Nat, B q → ∀ cell : Cell, H[q]? = some cell → cell.vm.isStatics = false) : k_F B U := by
  obtain ⟨h1, h2, h3, h4, ⟨h5, h6⟩, ⟨h7, h8, hov⟩, h9⟩ := h
  have hk : ∀ (a : Nat) (cell : Cell), s.heap[a]? = some cell → cell.vm.isStatics = true → U.heap[a]? = some cell := fun a cell hc hs => by
    rw [hU, hS.2.1 a (Array.getElem?_eq_some_iff.mp hc).1 (fun hA => by rw [h9 a hA cell hc] at hs; cases hs)]
    exact hc
  exact ⟨fun q hq => va_Nw.warmM hW (h1 q hq), fun q hq => va_Nw.warmC hW (h2 q hq), fun q hq => (h3 q hq).imp fun a ha => vk_R.warm hW ha, fun q hq => va_Nc.moved hW.alike (h4 q hq),
    ⟨by rw [hU]; exact va_Zq.moved hW.alike ((h5.kept hS.2.1).narrow hB), by rw [hU]; exact va_Zq.moved hW.alike ((h6.kept hS.2.1).narrow hB)⟩, ⟨k_lay hW.alike hk h7, k_lay hW.alike hk h8, k_over hW.alike hov⟩, fun q hq cell hc => hBs q hq cell (by rw [← hU]; exact hc)⟩
theorem k_F.blind {A : Nat → Prop} {U : State} {g : JFrame} {mk : MethodId} {a : Array Value} (h : k_F A U) : k_F A (U.calling g mk a) :=
  k_F.go (s := U) (U := U.calling g mk a) (H := U.heap) (locs := []) h va_S.rf (fun _ h => h) rfl (State.WarmedH.refl U) h.2.2.2.2.2.2
end
section
/-- the words of a call, by their places -/
theorem k_gV {own C : String} {idx : Nat} {y : MethodName} {cw : Cond} (h1 : Cond.methodLink own idx y ∈ wsA) (h2 : Cond.instanceMethod y ∈ wsA) (h3 : Cond.selects C y y ∈ wsA) (h4 : Cond.initialized C ∈ wsA) (h5 : cw ∈ wsA) : GoodIn wsA (wsV own idx C y (cw :: wsA)) := by
  intro w hw
  have hm : w ∈ wsA := by
    simp only [wsV, List.mem_append, List.mem_cons, List.not_mem_nil, or_false] at hw
    rcases hw with (rfl | rfl | rfl | rfl) | rfl | hw <;> assumption
  exact ⟨hm, wa_good w hm⟩
theorem k_gS {own : String} {idx : Nat} {y : MethodName} {cw : Cond} (h1 : Cond.methodLink own idx y ∈ wsA) (h2 : Cond.static y ∈ wsA) (h4 : Cond.initialized y.cls ∈ wsA) (h5 : cw ∈ wsA) : GoodIn wsA (va_wsS own idx y (cw :: wsA)) := by
  intro w hw
  have hm : w ∈ wsA := by
    simp only [va_wsS, List.mem_append, List.mem_cons, List.not_mem_nil, or_false] at hw
    rcases hw with (rfl | rfl | rfl) | rfl | hw <;> assumption
  exact ⟨hm, wa_good w hm⟩
theorem k_gI {cw : Cond} (h5 : cw ∈ wsA) : GoodIn wsA (cw :: wsA) := fun w hw => by
  have hm : w ∈ wsA := by
    rcases List.mem_cons.mp hw with rfl | hw <;> assumption
  exact ⟨hm, wa_good w hm⟩
/-! ===== a method as a function of its world: what it is given, what it answers, which cells it leaves ===== -/
section KM
def k_Pc (D : va_G) (cl : List vw_C) (tys : List (ClassId × FieldType)) (av : List Value) (w : va_W) (sz : Nat) : Array Value → State → Prop :=
  va_Pc av (fun U => U.heap.size = sz ∧ va_P D cl w U.heap ∧ va_K D cl tys U ∧ va_D (fun _ => True) w ∧ k_F (va_A w sz) U)
def k_Q (D : va_G) (cl : List vw_C) (tys : List (ClassId × FieldType)) (rv : Option Value) (w' : va_W) (A : Nat → Prop) : Array Value → State → Outcome → State → Prop :=
  fun _ st oc t => oc = .returned rv ∧ va_P D cl w' t.heap ∧ va_K D cl tys t ∧ va_D A w' ∧ va_F A st t
/-- y, given av and the cells w, answers rv and leaves the cells w' -/
def k_M (l : Launch) (y : MethodName) (ws : List Cond) (rm : Room) (D : va_G) (cl : List vw_C) (tys : List (ClassId × FieldType)) (av : List Value) (w : va_W) (rv : Option Value) (w' : va_W) : Prop :=
  ∀ sz : Nat, Met l y ws rm (k_Pc D cl tys av w sz) (k_Q D cl tys rv w' (va_A w sz)) rm.cells rm.slots (va_A w sz)
theorem k_blind {D : va_G} {cl : List vw_C} {tys : List (ClassId × FieldType)} {av : List Value} {w : va_W} {sz : Nat} : FrameBlind (k_Pc D cl tys av w sz) := fun a U g mk q => by
  obtain ⟨q0, q1, qP, qK, qD, qF⟩ := q
  exact ⟨q0, q1, qP, va_K.moved (u := U) (U := U.calling g mk a) (Vm.Alike.refl U.vm) qK, qD, k_F.blind qF⟩
theorem k_fm {α : Type} {f : Nat → Option α} {is : List Nat} {w : List α} (h : is.map f = w.map some) : is.filterMap f = w := by
  have h1 : (is.map f).filterMap id = (w.map some).filterMap id := by rw [h]
  rw [List.filterMap_map, List.filterMap_map] at h1
  have h2 : List.filterMap (id ∘ some) w = w := by
    induction w with
    | nil => rfl
    | cons a w ih => simp
  rw [h2] at h1
  exact h1
theorem k_of {l : Launch} {y : MethodName} {ws : List Cond} {rm : Room} {D : va_G} {cl : List vw_C} {tys : List (ClassId × FieldType)} {av : List Value} {w w' : va_W} {rv : Option Value} {cc : ByteArray} {maxL : Nat} {ret : Option FieldType}
    (hy : plainName y.cls = true) (hw : ws = Cond.code y cc maxL ret :: wsA) (hlen : (lg_sl av).length ≤ maxL)
    (body : ∀ (p : Program) (e : Env) (s : State) (m : MethodId) (below : List Frame) (meth : Method) (c : Code) (A : Nat → Prop) (ls : Array Slot), p.tables.exec = Jvm.exec → c.code = cc → meth.sig.returnType = ret → meth.locks = false → c.maxLocals = maxL → s.vm.findClass y.cls = some m.cls → (∀ x ∈ wsA, x.before av.toArray s = true) → (∀ q : Nat, s.heap.size ≤ q → A q) →
      va_P D cl w s.heap → va_D A w → va_K D cl tys s → k_F A s → lv_has ls maxL (lv_args 0 av) → va_S A s.heap s.heap [] →
      W p l e rm s m av.toArray below meth c s.heap [] 0 0 (MQ below (k_Q D cl tys rv w' A) av.toArray s rm.cells rm.slots A) (F0 m 0 ls [])) : k_M l y ws rm D cl tys av w rv w' := by
  intro sz
  refine Met.ofW (cc := cc) (maxL := maxL) (ret := ret) hy hw ?_
  intro p e s m args below meth c s₁ B hml hv
  obtain ⟨rfl, hsz, hP, hK, hD0, hF⟩ := hv
  subst hsz
  have hl := lv_entry av (n := maxL) hlen
  rw [lg_entry_eq]
  exact body p e s m below meth c (va_A w s.heap.size) _ B.exec B.bytes B.returns B.notSynchronized hml (findClass_of_methodNamed B.named) (fun x hx => atoms_spec (ws := ws) B.pre x (by rw [hw]; exact List.mem_cons_of_mem _ hx)) (fun q h => Or.inr h) hP hD0.self hK hF hl va_S.rf
section Rows
variable {p : Program} {l : Launch} {e : Env} {R : Room} {s : State} {m : MethodId} {args : Array Value} {below : List Frame} {meth : Method} {c : Code} {H : Heap} {locs : List Loc} {cells slots : Nat} {Q : State → Prop}
variable {cc : ByteArray} {pc : Nat} {ls : Array Slot} {rest : List Value} {D : va_G} {cl : List vw_C} {A : Nat → Prop} {a : Nat} {tys : List (ClassId × FieldType)} {ws w' W1 : va_W} {H0 : Heap}
theorem k_iret {mc ms : Nat} {v r : Int32} (hx : p.tables.exec = Jvm.exec) (hb : c.code = cc) (hr : meth.sig.returnType = some .int) (hlocks : meth.locks = false) (hP : va_P D cl w' H) (hK : va_K D cl tys s) (hD : va_D A w') (hS : va_S A s.heap H locs) (hv : v = r) (hdg : decode cc pc = .ok (.ireturn, 1)) (hc : cells ≤ mc ∧ slots ≤ ms) :
    W p l e R s m args below meth c H locs cells slots (MQ below (k_Q D cl tys (some (.int r)) w' A) args s mc ms A) (F0 m pc ls [.int v]) := by
  subst hv
  refine W.widen hc.1 hc.2 ?_
  exact W.iret hx hb hr (fun t ht hW => ⟨rfl, by rw [ht]; exact hP, va_K.moved hW.alike hK, hD, hS.F ht⟩) hS.2.2 hdg hlocks
theorem k_zret {mc ms : Nat} {v r : Int32} (hx : p.tables.exec = Jvm.exec) (hb : c.code = cc) (hr : meth.sig.returnType = some .boolean) (hlocks : meth.locks = false) (hn : narrow .boolean (.int v) = .int v) (hP : va_P D cl w' H) (hK : va_K D cl tys s) (hD : va_D A w') (hS : va_S A s.heap H locs) (hv : v = r) (hdg : decode cc pc = .ok (.ireturn, 1)) (hc : cells ≤ mc ∧ slots ≤ ms) :
    W p l e R s m args below meth c H locs cells slots (MQ below (k_Q D cl tys (some (.int r)) w' A) args s mc ms A) (F0 m pc ls [.int v]) := by
  subst hv
  refine W.widen hc.1 hc.2 ?_
  exact W.zret hx hb hr hn (fun t ht hW => ⟨rfl, by rw [ht]; exact hP, va_K.moved hW.alike hK, hD, hS.F ht⟩) hS.2.2 hdg hlocks
theorem k_lret {mc ms : Nat} {v r : Int64} (hx : p.tables.exec = Jvm.exec) (hb : c.code = cc) (hr : meth.sig.returnType = some .long) (hlocks : meth.locks = false) (hP : va_P D cl w' H) (hK : va_K D cl tys s) (hD : va_D A w') (hS : va_S A s.heap H locs) (hv : v = r) (hdg : decode cc pc = .ok (.lreturn, 1)) (hc : cells ≤ mc ∧ slots ≤ ms) :
    W p l e R s m args below meth c H locs cells slots (MQ below (k_Q D cl tys (some (.long r)) w' A) args s mc ms A) (F0 m pc ls [.long v]) := by
  subst hv
  refine W.widen hc.1 hc.2 ?_
  exact W.lret hx hb hr (fun t ht hW => ⟨rfl, by rw [ht]; exact hP, va_K.moved hW.alike hK, hD, hS.F ht⟩) hS.2.2 hdg hlocks
theorem k_vret {mc ms : Nat} (hx : p.tables.exec = Jvm.exec) (hb : c.code = cc) (hr : meth.sig.returnType = none) (hlocks : meth.locks = false) (hP : va_P D cl w' H) (hK : va_K D cl tys s) (hD : va_D A w') (hS : va_S A s.heap H locs) (hdg : decode cc pc = .ok (.return_, 1)) (hc : cells ≤ mc ∧ slots ≤ ms) :
    W p l e R s m args below meth c H locs cells slots (MQ below (k_Q D cl tys none w' A) args s mc ms A) (F0 m pc ls []) := by
  refine W.widen hc.1 hc.2 ?_
  exact W.vret hx hb hr (fun t ht hW => ⟨rfl, by rw [ht]; exact hP, va_K.moved hW.alike hK, hD, hS.F ht⟩) hS.2.2 hdg hlocks
theorem k_aret {mc ms : Nat} {q : Nat} {rt : FieldType} (hx : p.tables.exec = Jvm.exec) (hb : c.code = cc) (hr : meth.sig.returnType = some rt) (hrt : ∃ n, rt = .object n) (hlocks : meth.locks = false) (hP : va_P D cl w' H) (hK : va_K D cl tys s) (hD : va_D A w') (hS : va_S A s.heap H locs) (hdg : decode cc pc = .ok (.areturn, 1)) (hc : cells ≤ mc ∧ slots ≤ ms) :
    W p l e R s m args below meth c H locs cells slots (MQ below (k_Q D cl tys (some (.ref q)) w' A) args s mc ms A) (F0 m pc ls [.ref q]) := by
  refine W.widen hc.1 hc.2 ?_
  exact W.aret hx hb hr (Or.inl hrt) (Or.inr ⟨q, rfl⟩) (fun t ht hW => ⟨rfl, by rw [ht]; exact hP, va_K.moved hW.alike hK, hD, hS.F ht⟩) hS.2.2 hdg hlocks
/-- arrays, by the place j -/
theorem k_ild (hx : p.tables.exec = Jvm.exec) (hb : c.code = cc) (hK : va_K D cl tys s) (hP : va_P D cl ws H) (q0 t0 : Nat) {cA : ClassId} {n j : Nat} {f : Nat → Int32} {v : Int32} (ha : ws[q0]? = some (a, .inl (cA, n, .inl f))) (ht : tys[t0]? = some (cA, .int)) {i : Int32} (hi : i = nI j) (hj : j < n) (hn : n < 2 ^ 31) (hv : f j = v) (hdg : decode cc pc = .ok (.iaload, 1))
    (kk : W p l e R s m args below meth c H locs cells slots Q (F0 m (pc + 1) ls (.int v :: rest))) : W p l e R s m args below meth c H locs cells slots Q (F0 m pc ls (.int i :: .ref a :: rest)) := by
  subst hi; subst hv
  refine va_iald hx hb hK hP q0 t0 ha ht (vp_in_nI hj hn) hdg ?_
  rw [nI_clamp (Nat.lt_trans hj hn)]
  exact kk
theorem k_lld (hx : p.tables.exec = Jvm.exec) (hb : c.code = cc) (hK : va_K D cl tys s) (hP : va_P D cl ws H) (q0 t0 : Nat) {cA : ClassId} {n j : Nat} {f : Nat → Int64} {v : Int64} (ha : ws[q0]? = some (a, .inl (cA, n, .inr (.inl f)))) (ht : tys[t0]? = some (cA, .long)) {i : Int32} (hi : i = nI j) (hj : j < n) (hn : n < 2 ^ 31) (hv : f j = v) (hdg : decode cc pc = .ok (.laload, 1))
    (kk : W p l e R s m args below meth c H locs cells slots Q (F0 m (pc + 1) ls (.long v :: rest))) : W p l e R s m args below meth c H locs cells slots Q (F0 m pc ls (.int i :: .ref a :: rest)) := by
  subst hi; subst hv
  refine va_lald hx hb hK hP q0 t0 ha ht (vp_in_nI hj hn) hdg ?_
  rw [nI_clamp (Nat.lt_trans hj hn)]
  exact kk
/-- a row of an array of arrays -/
theorem k_ald {x : Nat} (hx : p.tables.exec = Jvm.exec) (hb : c.code = cc) (hK : va_K D cl tys s) (hP : va_P D cl ws H) (q0 t0 : Nat) {cA : ClassId} {ty : FieldType} {n j : Nat} {f : Nat → Option Nat} (ha : ws[q0]? = some (a, .inl (cA, n, .inr (.inr (.inr (.inr f)))))) (ht : tys[t0]? = some (cA, .array ty)) {i : Int32} (hi : i = nI j) (hj : j < n) (hn : n < 2 ^ 31) (hv : f j = some x) (hdg : decode cc pc = .ok (.aaload, 1))
    (kk : W p l e R s m args below meth c H locs cells slots Q (F0 m (pc + 1) ls (.ref x :: rest))) : W p l e R s m args below meth c H locs cells slots Q (F0 m pc ls (.int i :: .ref a :: rest)) := by
  subst hi
  have hin : vp_in (nI j) n := vp_in_nI hj hn
  have hcl : (nI j).toNatClampNeg = j := nI_clamp (Nat.lt_trans hj hn)
  exact W.aald (v := .ref x) (ty := .array ty) hx hb (hP q0 _ ha) ((hK.2 t0 _ ht).1 n (fun j => va_rf (f j))) rfl (fun q => by cases q) (by show ¬ (nI j < 0 ∨ (arrV _ _ _).slots.size ≤ _); rw [arrV_size]; exact hin) (by show (arrV _ _ _).slots[_]? = _; rw [hcl, arrV_read _ _ hj, hv]; rfl) rfl rfl hdg kk
theorem k_ist (hx : p.tables.exec = Jvm.exec) (hb : c.code = cc) (hK : va_K D cl tys s) (hP : va_P D cl ws H) (hD : va_D A ws) (hS : va_S A H0 H locs) (q0 t0 : Nat) {cA : ClassId} {n j : Nat} {f : Nat → Int32} (ha : ws[q0]? = some (a, .inl (cA, n, .inl f))) (ht : tys[t0]? = some (cA, .int)) {i x : Int32} (hi : i = nI j) (hj : j < n) (hn : n < 2 ^ 31) (hW : ws.set q0 (a, .inl (cA, n, .inl (upd f j x))) = W1) (hdg : decode cc pc = .ok (.iastore, 1))
    (kk : ∀ (H1 : Heap) (locs1 : List Loc), va_P D cl W1 H1 → va_D A W1 → va_S A H0 H1 locs1 → W p l e R s m args below meth c H1 locs1 cells slots Q (F0 m (pc + 1) ls rest)) : W p l e R s m args below meth c H locs cells slots Q (F0 m pc ls (.int x :: .int i :: .ref a :: rest)) := by
  subst hi; subst hW
  refine va_iast hx hb hK hP hD hS q0 t0 ha ht (vp_in_nI hj hn) hdg ?_
  rw [nI_clamp (Nat.lt_trans hj hn)]
  exact kk
theorem k_lst (hx : p.tables.exec = Jvm.exec) (hb : c.code = cc) (hK : va_K D cl tys s) (hP : va_P D cl ws H) (hD : va_D A ws) (hS : va_S A H0 H locs) (q0 t0 : Nat) {cA : ClassId} {n j : Nat} {f : Nat → Int64} (ha : ws[q0]? = some (a, .inl (cA, n, .inr (.inl f)))) (ht : tys[t0]? = some (cA, .long)) {i : Int32} {x : Int64} (hi : i = nI j) (hj : j < n) (hn : n < 2 ^ 31) (hW : ws.set q0 (a, .inl (cA, n, .inr (.inl (vp_updL f j x)))) = W1) (hdg : decode cc pc = .ok (.lastore, 1))
    (kk : ∀ (H1 : Heap) (locs1 : List Loc), va_P D cl W1 H1 → va_D A W1 → va_S A H0 H1 locs1 → W p l e R s m args below meth c H1 locs1 cells slots Q (F0 m (pc + 1) ls rest)) : W p l e R s m args below meth c H locs cells slots Q (F0 m pc ls (.long x :: .int i :: .ref a :: rest)) := by
  subst hi; subst hW
  refine va_last hx hb hK hP hD hS q0 t0 ha ht (vp_in_nI hj hn) hdg ?_
  rw [nI_clamp (Nat.lt_trans hj hn)]
  exact kk
end Rows
section Calls
variable {p : Program} {l : Launch} {e : Env} {R : Room} {s : State} {m : MethodId} {args : Array Value} {below : List Frame} {meth : Method} {c : Code} {H : Heap} {locs : List Loc} {cells slots : Nat} {Q : State → Prop}
variable {cc : ByteArray} {pc : Nat} {ls : Array Slot} {rest st0 st1 : List Value} {D : va_G} {cl : List vw_C} {A : Nat → Prop} {tys : List (ClassId × FieldType)} {w w' wr W0 W1 : va_W} {rv : Option Value}
theorem k_go {av : Array Value} {mc ms : Nat} (hr : va_Run p l e R s m args below meth c H locs cells slots mc ms (F0 m pc ls st0) rest (k_Q D cl tys rv w' (va_A w H.size) av) (va_A w H.size)) (hP : va_P D cl W0 H) (hD : va_D A W0) (hS : va_S A s.heap H locs) (hA : ∀ q : Nat, s.heap.size ≤ q → A q)
    (isC isR isO : List Nat) (hC : isC.map (fun i => W0[i]?) = w.map some) (hR : isR.map (fun i => W0[i]?) = wr.map some) (hn : va_nd isR = true) (hdis : ∀ i ∈ isR, i ∉ isC) (hO : isO.map (fun i => (wr ++ w')[i]?) = W1.map some) (hnO : va_nd isO = true) (hst1 : rv.toList ++ rest = st1)
    (kk : ∀ (H1 : Heap) (locs1 : List Loc), va_P D cl W1 H1 → va_D A W1 → va_S A s.heap H1 locs1 → W p l e R s m args below meth c H1 locs1 (cells + mc) (slots + ms) Q (F0 m (pc + 3) ls st1)) : W p l e R s m args below meth c H locs cells slots Q (F0 m pc ls st0) := by
  have hFc := va_free (wc := w) hD hS hA isC hC
  intro T hT X
  obtain ⟨v, st₀, t, T', L, h0, X', hL, e1, e2, ⟨hv, hP1, hK1, hD1, hz, hk⟩, st⟩ := hr T hT X
  cases hv
  rw [h0] at hz hk
  rw [← e1] at hP1 hz hk
  obtain ⟨hPj, hDj⟩ := va_join (wr := wr) (w1 := w') hP hD isC isR hC hR hn hdis hk hFc hP1 hD1
  have hP2 : va_P D cl W1 T'.heap := hPj.sub isO (k_fm hO)
  have hD2 : va_D A W1 := hDj.sub isO hnO hO
  subst hst1
  obtain ⟨t2, a1, b1⟩ := kk T'.heap (locs ++ L) hP2 hD2 ⟨Nat.le_trans hS.1 hz, fun q h1 h2 => by rw [hk q (Nat.lt_of_lt_of_le h1 hS.1) (fun z => h2 (hFc q z))]; exact hS.2.1 q h1 h2, fun q hq => by
      rcases List.mem_append.mp hq with h | h
      · exact hS.2.2 q h
      · exact hFc _ (hL q h)⟩ T' rfl X'
  exact ⟨t2, st t2 a1, b1⟩
variable {y : MethodName} {bytes : ByteArray} {maxL nL n index : Nat} {ret : Option FieldType} {wsM Ts : List Cond} {rm : Room} {own C host : String} {b : Nat} {As : List Value}
theorem k_V {ci : Nat} {fs : List Value} {q : vw_C} (S : CallFix p m c cc nL s args Ts own) (hM : k_M l y wsM rm D cl tys (.ref b :: As) w rv w') (cw : CallW R s args own C index y bytes maxL ret wsM rm rm.cells rm.slots n)
    (hK : va_K D cl tys s) (hF : k_F A s) (hP : va_P D cl W0 H) (hD : va_D A W0) (hS : va_S A s.heap H locs) (hA : ∀ q : Nat, s.heap.size ≤ q → A q)
    (isC isR isO : List Nat) (hC : isC.map (fun i => W0[i]?) = w.map some) (hR : isR.map (fun i => W0[i]?) = wr.map some) (hnC : va_nd isC = true) (hn : va_nd isR = true) (hdis : ∀ i ∈ isR, i ∉ isC) (hO : isO.map (fun i => (wr ++ w')[i]?) = W1.map some) (hnO : va_nd isO = true)
    (he : w[0]? = some (b, .inr (ci, fs))) (hc : cl[ci]? = some q) (hq : q.1 = C) (hlen : As.length = n) (hsize : ls.size = nL) (hst : st0 = As.reverse ++ .ref b :: rest) (hW : (rest.map fun v => v.category).sum ≤ 8) (hdg : decode cc pc = .ok (.invokevirtual index, 3)) (hf : cells + rm.cells ≤ R.cells ∧ slots + rm.slots ≤ R.slots) (hst1 : rv.toList ++ rest = st1)
    (kk : ∀ (H1 : Heap) (locs1 : List Loc), va_P D cl W1 H1 → va_D A W1 → va_S A s.heap H1 locs1 → W p l e R s m args below meth c H1 locs1 (cells + rm.cells) (slots + rm.slots) Q (F0 m (pc + 3) ls st1)) : W p l e R s m args below meth c H locs cells slots Q (F0 m pc ls st0) := by
  have hPc := hP.sub isC (k_fm hC)
  have hDc := hD.sub isC hnC hC
  have hFc := va_free (wc := w) hD hS hA isC hC
  subst hst; subst hq
  exact k_go (va_runV (As := As) (rest := rest) S (hM H.size) cw ⟨k_blind, va_recv hK hPc hc he, fun U hU hW => ⟨rfl, by rw [hU], by rw [hU]; exact hPc, va_K.moved hW.alike hK, hDc.weaken (fun _ _ _ _ => trivial), k_F.go hF hS hFc hU hW (k_ns hPc)⟩⟩ rfl hlen hsize rfl (lv_room hW) hdg hf) hP hD hS hA isC isR isO hC hR hn hdis hO hnO hst1 kk
theorem k_VN {ci : Nat} {fs : List Value} {q : vw_C} (S : CallFix p m c cc nL s args Ts own) (hM : k_M l y wsM rm D cl tys (.ref b :: As) w rv w') (cw : va_CN R s args own index y host bytes maxL ret wsM rm rm.cells rm.slots n ∧ (Cond.instanceMethod y).before args s = true ∧ (Cond.selects C y y).before args s = true)
    (hK : va_K D cl tys s) (hF : k_F A s) (hP : va_P D cl W0 H) (hD : va_D A W0) (hS : va_S A s.heap H locs) (hA : ∀ q : Nat, s.heap.size ≤ q → A q)
    (isC isR isO : List Nat) (hC : isC.map (fun i => W0[i]?) = w.map some) (hR : isR.map (fun i => W0[i]?) = wr.map some) (hnC : va_nd isC = true) (hn : va_nd isR = true) (hdis : ∀ i ∈ isR, i ∉ isC) (hO : isO.map (fun i => (wr ++ w')[i]?) = W1.map some) (hnO : va_nd isO = true)
    (he : w[0]? = some (b, .inr (ci, fs))) (hc : cl[ci]? = some q) (hq : q.1 = C) (hlen : As.length = n) (hsize : ls.size = nL) (hst : st0 = As.reverse ++ .ref b :: rest) (hW : (rest.map fun v => v.category).sum ≤ 8) (hdg : decode cc pc = .ok (.invokevirtual index, 3)) (hf : cells + rm.cells ≤ R.cells ∧ slots + rm.slots ≤ R.slots) (hst1 : rv.toList ++ rest = st1)
    (kk : ∀ (H1 : Heap) (locs1 : List Loc), va_P D cl W1 H1 → va_D A W1 → va_S A s.heap H1 locs1 → W p l e R s m args below meth c H1 locs1 (cells + rm.cells) (slots + rm.slots) Q (F0 m (pc + 3) ls st1)) : W p l e R s m args below meth c H locs cells slots Q (F0 m pc ls st0) := by
  have hPc := hP.sub isC (k_fm hC)
  have hDc := hD.sub isC hnC hC
  have hFc := va_free (wc := w) hD hS hA isC hC
  subst hst; subst hq
  exact k_go (va_runVN (As := As) (rest := rest) S (hM H.size) cw ⟨k_blind, va_recv hK hPc hc he, fun U hU hW => ⟨rfl, by rw [hU], by rw [hU]; exact hPc, va_K.moved hW.alike hK, hDc.weaken (fun _ _ _ _ => trivial), k_F.go hF hS hFc hU hW (k_ns hPc)⟩⟩ rfl hlen hsize rfl (lv_room hW) hdg hf) hP hD hS hA isC isR isO hC hR hn hdis hO hnO hst1 kk
theorem k_S (S : CallFix p m c cc nL s args Ts own) (hM : k_M l y wsM rm D cl tys As w rv w') (cw : CallB R s args own index y bytes maxL ret wsM rm rm.cells rm.slots n ∧ (Cond.static y).before args s = true)
    (hK : va_K D cl tys s) (hF : k_F A s) (hP : va_P D cl W0 H) (hD : va_D A W0) (hS : va_S A s.heap H locs) (hA : ∀ q : Nat, s.heap.size ≤ q → A q)
    (isC isR isO : List Nat) (hC : isC.map (fun i => W0[i]?) = w.map some) (hR : isR.map (fun i => W0[i]?) = wr.map some) (hnC : va_nd isC = true) (hn : va_nd isR = true) (hdis : ∀ i ∈ isR, i ∉ isC) (hO : isO.map (fun i => (wr ++ w')[i]?) = W1.map some) (hnO : va_nd isO = true)
    (hlen : As.length = n) (hsize : ls.size = nL) (hst : st0 = As.reverse ++ rest) (hW : (rest.map fun v => v.category).sum ≤ 8) (hdg : decode cc pc = .ok (.invokestatic index, 3)) (hf : cells + rm.cells ≤ R.cells ∧ slots + rm.slots ≤ R.slots) (hst1 : rv.toList ++ rest = st1)
    (kk : ∀ (H1 : Heap) (locs1 : List Loc), va_P D cl W1 H1 → va_D A W1 → va_S A s.heap H1 locs1 → W p l e R s m args below meth c H1 locs1 (cells + rm.cells) (slots + rm.slots) Q (F0 m (pc + 3) ls st1)) : W p l e R s m args below meth c H locs cells slots Q (F0 m pc ls st0) := by
  have hPc := hP.sub isC (k_fm hC)
  have hDc := hD.sub isC hnC hC
  have hFc := va_free (wc := w) hD hS hA isC hC
  subst hst
  exact k_go (va_runS (As := As) (rest := rest) S (hM H.size) cw ⟨k_blind, fun U hU hW => ⟨rfl, by rw [hU], by rw [hU]; exact hPc, va_K.moved hW.alike hK, hDc.weaken (fun _ _ _ _ => trivial), k_F.go hF hS hFc hU hW (k_ns hPc)⟩⟩ rfl hlen hsize rfl (lv_room hW) hdg hf) hP hD hS hA isC isR isO hC hR hn hdis hO hnO hst1 kk
theorem k_SN (S : CallFix p m c cc nL s args Ts own) (hM : k_M l y wsM rm D cl tys As w rv w') (cw : va_CN R s args own index y host bytes maxL ret wsM rm rm.cells rm.slots n ∧ (Cond.static y).before args s = true ∧ True)
    (hK : va_K D cl tys s) (hF : k_F A s) (hP : va_P D cl W0 H) (hD : va_D A W0) (hS : va_S A s.heap H locs) (hA : ∀ q : Nat, s.heap.size ≤ q → A q)
    (isC isR isO : List Nat) (hC : isC.map (fun i => W0[i]?) = w.map some) (hR : isR.map (fun i => W0[i]?) = wr.map some) (hnC : va_nd isC = true) (hn : va_nd isR = true) (hdis : ∀ i ∈ isR, i ∉ isC) (hO : isO.map (fun i => (wr ++ w')[i]?) = W1.map some) (hnO : va_nd isO = true)
    (hlen : As.length = n) (hsize : ls.size = nL) (hst : st0 = As.reverse ++ rest) (hW : (rest.map fun v => v.category).sum ≤ 8) (hdg : decode cc pc = .ok (.invokestatic index, 3)) (hf : cells + rm.cells ≤ R.cells ∧ slots + rm.slots ≤ R.slots) (hst1 : rv.toList ++ rest = st1)
    (kk : ∀ (H1 : Heap) (locs1 : List Loc), va_P D cl W1 H1 → va_D A W1 → va_S A s.heap H1 locs1 → W p l e R s m args below meth c H1 locs1 (cells + rm.cells) (slots + rm.slots) Q (F0 m (pc + 3) ls st1)) : W p l e R s m args below meth c H locs cells slots Q (F0 m pc ls st0) := by
  have hPc := hP.sub isC (k_fm hC)
  have hDc := hD.sub isC hnC hC
  have hFc := va_free (wc := w) hD hS hA isC hC
  subst hst
  exact k_go (va_runSN (As := As) (rest := rest) S (hM H.size) cw ⟨k_blind, fun U hU hW => ⟨rfl, by rw [hU], by rw [hU]; exact hPc, va_K.moved hW.alike hK, hDc.weaken (fun _ _ _ _ => trivial), k_F.go hF hS hFc hU hW (k_ns hPc)⟩⟩ rfl hlen hsize rfl (lv_room hW) hdg hf) hP hD hS hA isC isR isO hC hR hn hdis hO hnO hst1 kk
end Calls
end KM
theorem k_rvi {l : Launch} {y : MethodName} {ws : List Cond} {rm : Room} {D : va_G} {cl : List vw_C} {tys : List (ClassId × FieldType)} {av : List Value} {w w' : va_W} {r r' : Int32} (h : r = r') (hM : k_M l y ws rm D cl tys av w (some (.int r)) w') : k_M l y ws rm D cl tys av w (some (.int r')) w' := h ▸ hM
theorem k_rvl {l : Launch} {y : MethodName} {ws : List Cond} {rm : Room} {D : va_G} {cl : List vw_C} {tys : List (ClassId × FieldType)} {av : List Value} {w w' : va_W} {r r' : Int64} (h : r = r') (hM : k_M l y ws rm D cl tys av w (some (.long r)) w') : k_M l y ws rm D cl tys av w (some (.long r')) w' := h ▸ hM
theorem k_topi {p : Program} {l : Launch} {e : Env} {R : Room} {s : State} {m : MethodId} {args : Array Value} {below : List Frame} {meth : Method} {c : Code} {H : Heap} {locs : List Loc} {cells slots pc : Nat} {Q : State → Prop} {ls : Array Slot} {rest : List Value} {x y : Int32} (h : x = y) (k : W p l e R s m args below meth c H locs cells slots Q (F0 m pc ls (.int y :: rest))) : W p l e R s m args below meth c H locs cells slots Q (F0 m pc ls (.int x :: rest)) := h ▸ k
theorem k_topl {p : Program} {l : Launch} {e : Env} {R : Room} {s : State} {m : MethodId} {args : Array Value} {below : List Frame} {meth : Method} {c : Code} {H : Heap} {locs : List Loc} {cells slots pc : Nat} {Q : State → Prop} {ls : Array Slot} {rest : List Value} {x y : Int64} (h : x = y) (k : W p l e R s m args below meth c H locs cells slots Q (F0 m pc ls (.long y :: rest))) : W p l e R s m args below meth c H locs cells slots Q (F0 m pc ls (.long x :: rest)) := h ▸ k
end
section
/-! ===== the class's own numbers, as its code computes them ===== -/
def f_bit (x : Int32) : Int64 := 1 <<< ((x - 1).toInt64 &&& 63)
def f_isFull (md : Nat → Int32) (k : Nat) : Int32 := if md k < 40 then 0 else 1
def f_wasMade (md : Nat → Int32) (k : Nat) (n : Int32) : Int32 := if n < 1 then 0 else if md k < n then 0 else 1
def f_isKnown (md : Nat → Int32) (kn : Nat → Int64) (k : Nat) (n : Int32) : Int32 := if f_wasMade md k n = 0 then 0 else if lg_cmp (kn k &&& f_bit n) 0 = 0 then 0 else 1
def f_isDesk (x : Int32) : Int32 := if x = 0 then 1 else if x = 1 then 1 else 0
def f_isKind (x : Int32) : Int32 := if x < 0 then 0 else if 8 ≤ x then 0 else 1
def f_isPart (x : Int32) : Int32 := if x < 0 then 0 else if 12 ≤ x then 0 else 1
theorem n_le {i n : Nat} {N : Int32} (hN : N = nI n) (hn : n < 2 ^ 31) (hi : i < 2 ^ 31) : N ≤ nI i ↔ n ≤ i := by subst hN; exact nI_leI hn hi
theorem n_lt {i n : Nat} {N : Int32} (hN : N = nI n) (hn : n < 2 ^ 31) (hi : i < 2 ^ 31) : nI i < N ↔ i < n := by subst hN; exact nI_ltI hi hn
theorem n_eq0 {x y : Int64} : lg_cmp x y = 0 ↔ x = y := by
  unfold lg_cmp
  by_cases h1 : y < x
  · rw [if_pos h1]
    exact ⟨fun h => absurd h (by decide), fun h => absurd h1 (by rw [h]; exact Int64.lt_irrefl)⟩
  · rw [if_neg h1]
    by_cases h2 : x = y
    · rw [if_pos h2]
      exact ⟨fun _ => h2, fun _ => rfl⟩
    · rw [if_neg h2]
      exact ⟨fun h => absurd h (by decide), fun h => absurd h h2⟩
abbrev rm_NU_bitOf : Room := { frames := 0, cells := 0, slots := 0, locals := 0 }
set_option maxHeartbeats 4000000 in
set_option maxRecDepth 100000 in
theorem k_NU_bitOf (l : Launch) (dC : Nat → ClassId) (dI : Nat → Nat → Nat) (cI cJ cG cZ : ClassId) (x : Int32) : k_M l yNU_bitOf wsNU_bitOf rm_NU_bitOf (dC, dI) vwCl [(cI, .int), (cJ, .long), (cG, .array .long), (cZ, .boolean)] [.int x] [] (some (.long (f_bit x))) [] := by
  refine k_of (cc := cNU_bitOf) (maxL := 1) (ret := (some .long)) (by decide) rfl (Nat.le_of_ble_eq_true rfl) ?_
  intro p e s m below meth c A ls hx hb hr hlocks hml hown hts hA hP hD hK hF hl hS
  have hown : s.vm.findClass RNU = some m.cls := hown
  have hl : lv_has ls 1 [(0, .int x)] := hl
  refine lv_lconst (v := 1) hx hb dNU_bitOf_0 (by decide) ?_
  refine lv_iload_n hx hb dNU_bitOf_1 rfl (lv_at hl 0 rfl) ?_
  refine lv_iconst (v := 1) hx hb dNU_bitOf_2 (by decide) ?_
  refine lv_isub hx hb dNU_bitOf_3 ?_
  refine lv_lshl hx hb dNU_bitOf_4 rfl ?_
  exact k_lret hx hb hr hlocks hP hK hD hS rfl dNU_bitOf_5 ⟨Nat.le_of_ble_eq_true rfl, Nat.le_of_ble_eq_true rfl⟩

abbrev rm_NU_isFull : Room := { frames := 0, cells := 0, slots := 0, locals := 0 }
set_option maxHeartbeats 4000000 in
set_option maxRecDepth 100000 in
theorem k_NU_isFull (l : Launch) (dC : Nat → ClassId) (dI : Nat → Nat → Nat) (cI cJ cG cZ : ClassId) (h0 : Nat) (h1 : Nat) (h2 : Nat) (md : Nat → Int32) (kn : Nat → Int64) (k : Nat) (hk : k < 8) : k_M l yNU_isFull wsNU_isFull rm_NU_isFull (dC, dI) vwCl [(cI, .int), (cJ, .long), (cG, .array .long), (cZ, .boolean)] [.ref h0, .int (nI k)] [(h0, .inr (3, [.ref h1, .ref h2])), (h1, .inl (cI, 8, .inl md)), (h2, .inl (cJ, 8, .inr (.inl kn)))] (some (.int (f_isFull md k))) [(h0, .inr (3, [.ref h1, .ref h2])), (h1, .inl (cI, 8, .inl md)), (h2, .inl (cJ, 8, .inr (.inl kn)))] := by
  refine k_of (cc := cNU_isFull) (maxL := 2) (ret := (some .boolean)) (by decide) rfl (Nat.le_of_ble_eq_true rfl) ?_
  intro p e s m below meth c A ls hx hb hr hlocks hml hown hts hA hP hD hK hF hl hS
  have hown : s.vm.findClass RNU = some m.cls := hown
  have hl : lv_has ls 2 [(0, .ref h0), (1, .int (nI k))] := hl
  refine lv_aload_n hx hb dNU_isFull_0 rfl (lv_at hl 0 rfl) ?_
  refine va_get (D := (dC, dI)) (ci := 3) (v := .ref h1) (C := RNU) (T := TNU) (N := 2) hx hb hts inNU hown hK hP 0 rfl rfl 0 (by decide) (hts _ m_f_NU_9) (fun _ h9 => h9) rfl dNU_isFull_1 ?_
  refine lv_iload_n hx hb dNU_isFull_4 rfl (lv_at hl 1 rfl) ?_
  refine k_ild (v := md k) hx hb hK hP 1 0 rfl rfl (j := k) rfl hk (by decide) rfl dNU_isFull_5 ?_
  refine lv_bipush (v := 40) hx hb dNU_isFull_6 (by decide) ?_
  refine lv_icmp_lt (tgt := 15) hx hb dNU_isFull_8 (by decide) (fun c_1 => ?_) (fun c_1 => ?_)
  · refine lv_iconst (v := 0) hx hb dNU_isFull_15 (by decide) ?_
    exact k_zret hx hb hr hlocks rfl hP hK hD hS (by unfold f_isFull; rw [if_pos c_1]) dNU_isFull_16 ⟨Nat.le_of_ble_eq_true rfl, Nat.le_of_ble_eq_true rfl⟩
  · refine lv_iconst (v := 1) hx hb dNU_isFull_11 (by decide) ?_
    refine lv_goto (tgt := 16) hx hb dNU_isFull_12 (by decide) ?_
    exact k_zret hx hb hr hlocks rfl hP hK hD hS (by unfold f_isFull; rw [if_neg c_1]) dNU_isFull_16 ⟨Nat.le_of_ble_eq_true rfl, Nat.le_of_ble_eq_true rfl⟩

abbrev rm_NU_makeNext : Room := { frames := 1, cells := 0, slots := 0, locals := 20 }
set_option maxHeartbeats 4000000 in
set_option maxRecDepth 100000 in
theorem k_NU_makeNext (l : Launch) (dC : Nat → ClassId) (dI : Nat → Nat → Nat) (cI cJ cG cZ : ClassId) (h0 : Nat) (h1 : Nat) (h2 : Nat) (md : Nat → Int32) (kn : Nat → Int64) (k : Nat) (hk : k < 8) : k_M l yNU_makeNext wsNU_makeNext rm_NU_makeNext (dC, dI) vwCl [(cI, .int), (cJ, .long), (cG, .array .long), (cZ, .boolean)] [.ref h0, .int (nI k)] [(h0, .inr (3, [.ref h1, .ref h2])), (h1, .inl (cI, 8, .inl md)), (h2, .inl (cJ, 8, .inr (.inl kn)))] (some (.int (md k + 1))) [(h0, .inr (3, [.ref h1, .ref h2])), (h1, .inl (cI, 8, .inl (upd md k (md k + 1)))), (h2, .inl (cJ, 8, .inr (.inl (vp_updL kn k (kn k ||| f_bit (md k + 1))))))] := by
  refine k_of (cc := cNU_makeNext) (maxL := 2) (ret := (some .int)) (by decide) rfl (Nat.le_of_ble_eq_true rfl) ?_
  intro p e s m below meth c A ls hx hb hr hlocks hml hown hts hA hP hD hK hF hl hS
  have hown : s.vm.findClass RNU = some m.cls := hown
  have hl : lv_has ls 2 [(0, .ref h0), (1, .int (nI k))] := hl
  refine lv_aload_n hx hb dNU_makeNext_0 rfl (lv_at hl 0 rfl) ?_
  refine va_get (D := (dC, dI)) (ci := 3) (v := .ref h1) (C := RNU) (T := TNU) (N := 2) hx hb hts inNU hown hK hP 0 rfl rfl 0 (by decide) (hts _ m_f_NU_9) (fun _ h9 => h9) rfl dNU_makeNext_1 ?_
  refine lv_iload_n hx hb dNU_makeNext_4 rfl (lv_at hl 1 rfl) ?_
  refine lv_dup2_11 hx hb dNU_makeNext_5 rfl rfl ?_
  refine k_ild (v := md k) hx hb hK hP 1 0 rfl rfl (j := k) rfl hk (by decide) rfl dNU_makeNext_6 ?_
  refine lv_iconst (v := 1) hx hb dNU_makeNext_7 (by decide) ?_
  refine lv_iadd hx hb dNU_makeNext_8 ?_
  refine k_ist (W1 := [(h0, .inr (3, [.ref h1, .ref h2])), (h1, .inl (cI, 8, .inl (upd md k ((md k) + 1)))), (h2, .inl (cJ, 8, .inr (.inl kn)))]) hx hb hK hP hD hS 1 0 rfl rfl (j := k) rfl hk (by decide) rfl dNU_makeNext_9 (fun H locs hP hD hS => ?_)
  refine lv_aload_n hx hb dNU_makeNext_10 rfl (lv_at hl 0 rfl) ?_
  refine va_get (D := (dC, dI)) (ci := 3) (v := .ref h2) (C := RNU) (T := TNU) (N := 2) hx hb hts inNU hown hK hP 0 rfl rfl 1 (by decide) (hts _ m_f_NU_15) (fun _ h9 => h9) rfl dNU_makeNext_11 ?_
  refine lv_iload_n hx hb dNU_makeNext_14 rfl (lv_at hl 1 rfl) ?_
  refine lv_dup2_11 hx hb dNU_makeNext_15 rfl rfl ?_
  refine k_lld (v := kn k) hx hb hK hP 2 1 rfl rfl (j := k) rfl hk (by decide) rfl dNU_makeNext_16 ?_
  refine lv_aload_n hx hb dNU_makeNext_17 rfl (lv_at hl 0 rfl) ?_
  refine va_get (D := (dC, dI)) (ci := 3) (v := .ref h1) (C := RNU) (T := TNU) (N := 2) hx hb hts inNU hown hK hP 0 rfl rfl 0 (by decide) (hts _ m_f_NU_9) (fun _ h9 => h9) rfl dNU_makeNext_18 ?_
  refine lv_iload_n hx hb dNU_makeNext_21 rfl (lv_at hl 1 rfl) ?_
  refine k_ild (v := ((md k) + 1)) hx hb hK hP 1 0 rfl rfl (j := k) rfl hk (by decide) pk_us dNU_makeNext_22 ?_
  refine k_S (wr := [(h0, .inr (3, [.ref h1, .ref h2])), (h1, .inl (cI, 8, .inl (upd md k ((md k) + 1)))), (h2, .inl (cJ, 8, .inr (.inl kn)))]) (W1 := [(h0, .inr (3, [.ref h1, .ref h2])), (h1, .inl (cI, 8, .inl (upd md k ((md k) + 1)))), (h2, .inl (cJ, 8, .inr (.inl kn)))]) (st1 := [.long (f_bit ((md k) + 1)), .long (kn k), .int (nI k), .ref h2]) ⟨hx, hb, hml, hown, hts⟩ (k_NU_bitOf l dC dI cI cJ cG cZ ((md k) + 1)) (va_cwS 1 hts (k_gS m_l_NU_19 m_st_NU_bitOf m_in_NU m_c_NU_bitOf) rfl rfl rfl (by decide +kernel) ⟨Nat.le_of_ble_eq_true rfl, Nat.le_of_ble_eq_true rfl⟩) hK hF hP hD hS hA [] [0, 1, 2] [0, 1, 2] rfl rfl (by decide) (by decide) (by decide) rfl (by decide) rfl hl.1 rfl (Nat.le_of_ble_eq_true rfl) dNU_makeNext_23 ⟨Nat.le_of_ble_eq_true rfl, Nat.le_of_ble_eq_true rfl⟩ rfl (fun H locs hP hD hS => ?_)
  refine lv_lor hx hb dNU_makeNext_26 ?_
  refine k_lst (W1 := [(h0, .inr (3, [.ref h1, .ref h2])), (h1, .inl (cI, 8, .inl (upd md k ((md k) + 1)))), (h2, .inl (cJ, 8, .inr (.inl (vp_updL kn k ((kn k) ||| (f_bit ((md k) + 1)))))))]) hx hb hK hP hD hS 2 1 rfl rfl (j := k) rfl hk (by decide) rfl dNU_makeNext_27 (fun H locs hP hD hS => ?_)
  refine lv_aload_n hx hb dNU_makeNext_28 rfl (lv_at hl 0 rfl) ?_
  refine va_get (D := (dC, dI)) (ci := 3) (v := .ref h1) (C := RNU) (T := TNU) (N := 2) hx hb hts inNU hown hK hP 0 rfl rfl 0 (by decide) (hts _ m_f_NU_9) (fun _ h9 => h9) rfl dNU_makeNext_29 ?_
  refine lv_iload_n hx hb dNU_makeNext_32 rfl (lv_at hl 1 rfl) ?_
  refine k_ild (v := ((md k) + 1)) hx hb hK hP 1 0 rfl rfl (j := k) rfl hk (by decide) pk_us dNU_makeNext_33 ?_
  exact k_iret hx hb hr hlocks hP hK hD hS rfl dNU_makeNext_34 ⟨Nat.le_of_ble_eq_true rfl, Nat.le_of_ble_eq_true rfl⟩

abbrev rm_NU_forget : Room := { frames := 1, cells := 0, slots := 0, locals := 20 }
set_option maxHeartbeats 4000000 in
set_option maxRecDepth 100000 in
theorem k_NU_forget (l : Launch) (dC : Nat → ClassId) (dI : Nat → Nat → Nat) (cI cJ cG cZ : ClassId) (h0 : Nat) (h1 : Nat) (h2 : Nat) (md : Nat → Int32) (kn : Nat → Int64) (k : Nat) (n : Int32) (hk : k < 8) : k_M l yNU_forget wsNU_forget rm_NU_forget (dC, dI) vwCl [(cI, .int), (cJ, .long), (cG, .array .long), (cZ, .boolean)] [.ref h0, .int (nI k), .int n] [(h0, .inr (3, [.ref h1, .ref h2])), (h1, .inl (cI, 8, .inl md)), (h2, .inl (cJ, 8, .inr (.inl kn)))] none [(h0, .inr (3, [.ref h1, .ref h2])), (h1, .inl (cI, 8, .inl md)), (h2, .inl (cJ, 8, .inr (.inl (vp_updL kn k (kn k &&& (f_bit n ^^^ (-1)))))))] := by
  refine k_of (cc := cNU_forget) (maxL := 3) (ret := none) (by decide) rfl (Nat.le_of_ble_eq_true rfl) ?_
  intro p e s m below meth c A ls hx hb hr hlocks hml hown hts hA hP hD hK hF hl hS
  have hown : s.vm.findClass RNU = some m.cls := hown
  have hl : lv_has ls 3 [(0, .ref h0), (1, .int (nI k)), (2, .int n)] := hl
  refine lv_aload_n hx hb dNU_forget_0 rfl (lv_at hl 0 rfl) ?_
  refine va_get (D := (dC, dI)) (ci := 3) (v := .ref h2) (C := RNU) (T := TNU) (N := 2) hx hb hts inNU hown hK hP 0 rfl rfl 1 (by decide) (hts _ m_f_NU_15) (fun _ h9 => h9) rfl dNU_forget_1 ?_
  refine lv_iload_n hx hb dNU_forget_4 rfl (lv_at hl 1 rfl) ?_
  refine lv_dup2_11 hx hb dNU_forget_5 rfl rfl ?_
  refine k_lld (v := kn k) hx hb hK hP 2 1 rfl rfl (j := k) rfl hk (by decide) rfl dNU_forget_6 ?_
  refine lv_iload_n hx hb dNU_forget_7 rfl (lv_at hl 2 rfl) ?_
  refine k_S (wr := [(h0, .inr (3, [.ref h1, .ref h2])), (h1, .inl (cI, 8, .inl md)), (h2, .inl (cJ, 8, .inr (.inl kn)))]) (W1 := [(h0, .inr (3, [.ref h1, .ref h2])), (h1, .inl (cI, 8, .inl md)), (h2, .inl (cJ, 8, .inr (.inl kn)))]) (st1 := [.long (f_bit n), .long (kn k), .int (nI k), .ref h2]) ⟨hx, hb, hml, hown, hts⟩ (k_NU_bitOf l dC dI cI cJ cG cZ n) (va_cwS 1 hts (k_gS m_l_NU_19 m_st_NU_bitOf m_in_NU m_c_NU_bitOf) rfl rfl rfl (by decide +kernel) ⟨Nat.le_of_ble_eq_true rfl, Nat.le_of_ble_eq_true rfl⟩) hK hF hP hD hS hA [] [0, 1, 2] [0, 1, 2] rfl rfl (by decide) (by decide) (by decide) rfl (by decide) rfl hl.1 rfl (Nat.le_of_ble_eq_true rfl) dNU_forget_8 ⟨Nat.le_of_ble_eq_true rfl, Nat.le_of_ble_eq_true rfl⟩ rfl (fun H locs hP hD hS => ?_)
  refine lv_ldc2 (v := (-1)) hx hb hown (hts _ m_k_NU_23) dNU_forget_11 ?_
  refine lv_lxor hx hb dNU_forget_14 ?_
  refine lv_land hx hb dNU_forget_15 ?_
  refine k_lst (W1 := [(h0, .inr (3, [.ref h1, .ref h2])), (h1, .inl (cI, 8, .inl md)), (h2, .inl (cJ, 8, .inr (.inl (vp_updL kn k ((kn k) &&& ((f_bit n) ^^^ (-1)))))))]) hx hb hK hP hD hS 2 1 rfl rfl (j := k) rfl hk (by decide) rfl dNU_forget_16 (fun H locs hP hD hS => ?_)
  exact k_vret hx hb hr hlocks hP hK hD hS dNU_forget_17 ⟨Nat.le_of_ble_eq_true rfl, Nat.le_of_ble_eq_true rfl⟩

abbrev rm_NU_wasMade : Room := { frames := 0, cells := 0, slots := 0, locals := 0 }
set_option maxHeartbeats 4000000 in
set_option maxRecDepth 100000 in
theorem k_NU_wasMade (l : Launch) (dC : Nat → ClassId) (dI : Nat → Nat → Nat) (cI cJ cG cZ : ClassId) (h0 : Nat) (h1 : Nat) (h2 : Nat) (md : Nat → Int32) (kn : Nat → Int64) (k : Nat) (n : Int32) (hk : k < 8) : k_M l yNU_wasMade wsNU_wasMade rm_NU_wasMade (dC, dI) vwCl [(cI, .int), (cJ, .long), (cG, .array .long), (cZ, .boolean)] [.ref h0, .int (nI k), .int n] [(h0, .inr (3, [.ref h1, .ref h2])), (h1, .inl (cI, 8, .inl md)), (h2, .inl (cJ, 8, .inr (.inl kn)))] (some (.int (f_wasMade md k n))) [(h0, .inr (3, [.ref h1, .ref h2])), (h1, .inl (cI, 8, .inl md)), (h2, .inl (cJ, 8, .inr (.inl kn)))] := by
  refine k_of (cc := cNU_wasMade) (maxL := 3) (ret := (some .boolean)) (by decide) rfl (Nat.le_of_ble_eq_true rfl) ?_
  intro p e s m below meth c A ls hx hb hr hlocks hml hown hts hA hP hD hK hF hl hS
  have hown : s.vm.findClass RNU = some m.cls := hown
  have hl : lv_has ls 3 [(0, .ref h0), (1, .int (nI k)), (2, .int n)] := hl
  refine lv_iload_n hx hb dNU_wasMade_0 rfl (lv_at hl 2 rfl) ?_
  refine lv_iconst (v := 1) hx hb dNU_wasMade_1 (by decide) ?_
  refine lv_icmp_lt (tgt := 19) hx hb dNU_wasMade_2 (by decide) (fun c_1 => ?_) (fun c_1 => ?_)
  · refine lv_iconst (v := 0) hx hb dNU_wasMade_19 (by decide) ?_
    exact k_zret hx hb hr hlocks rfl hP hK hD hS (by unfold f_wasMade; rw [if_pos c_1]) dNU_wasMade_20 ⟨Nat.le_of_ble_eq_true rfl, Nat.le_of_ble_eq_true rfl⟩
  · refine lv_iload_n hx hb dNU_wasMade_5 rfl (lv_at hl 2 rfl) ?_
    refine lv_aload_n hx hb dNU_wasMade_6 rfl (lv_at hl 0 rfl) ?_
    refine va_get (D := (dC, dI)) (ci := 3) (v := .ref h1) (C := RNU) (T := TNU) (N := 2) hx hb hts inNU hown hK hP 0 rfl rfl 0 (by decide) (hts _ m_f_NU_9) (fun _ h9 => h9) rfl dNU_wasMade_7 ?_
    refine lv_iload_n hx hb dNU_wasMade_10 rfl (lv_at hl 1 rfl) ?_
    refine k_ild (v := md k) hx hb hK hP 1 0 rfl rfl (j := k) rfl hk (by decide) rfl dNU_wasMade_11 ?_
    refine lv_icmp_gt (tgt := 19) hx hb dNU_wasMade_12 (by decide) (fun c_2 => ?_) (fun c_2 => ?_)
    · refine lv_iconst (v := 0) hx hb dNU_wasMade_19 (by decide) ?_
      exact k_zret hx hb hr hlocks rfl hP hK hD hS (by unfold f_wasMade; rw [if_neg c_1, if_pos c_2]) dNU_wasMade_20 ⟨Nat.le_of_ble_eq_true rfl, Nat.le_of_ble_eq_true rfl⟩
    · refine lv_iconst (v := 1) hx hb dNU_wasMade_15 (by decide) ?_
      refine lv_goto (tgt := 20) hx hb dNU_wasMade_16 (by decide) ?_
      exact k_zret hx hb hr hlocks rfl hP hK hD hS (by unfold f_wasMade; rw [if_neg c_1, if_neg c_2]) dNU_wasMade_20 ⟨Nat.le_of_ble_eq_true rfl, Nat.le_of_ble_eq_true rfl⟩

abbrev rm_NU_isKnown : Room := { frames := 1, cells := 0, slots := 0, locals := 22 }
set_option maxHeartbeats 4000000 in
set_option maxRecDepth 100000 in
theorem k_NU_isKnown (l : Launch) (dC : Nat → ClassId) (dI : Nat → Nat → Nat) (cI cJ cG cZ : ClassId) (h0 : Nat) (h1 : Nat) (h2 : Nat) (md : Nat → Int32) (kn : Nat → Int64) (k : Nat) (n : Int32) (hk : k < 8) : k_M l yNU_isKnown wsNU_isKnown rm_NU_isKnown (dC, dI) vwCl [(cI, .int), (cJ, .long), (cG, .array .long), (cZ, .boolean)] [.ref h0, .int (nI k), .int n] [(h0, .inr (3, [.ref h1, .ref h2])), (h1, .inl (cI, 8, .inl md)), (h2, .inl (cJ, 8, .inr (.inl kn)))] (some (.int (f_isKnown md kn k n))) [(h0, .inr (3, [.ref h1, .ref h2])), (h1, .inl (cI, 8, .inl md)), (h2, .inl (cJ, 8, .inr (.inl kn)))] := by
  refine k_of (cc := cNU_isKnown) (maxL := 3) (ret := (some .boolean)) (by decide) rfl (Nat.le_of_ble_eq_true rfl) ?_
  intro p e s m below meth c A ls hx hb hr hlocks hml hown hts hA hP hD hK hF hl hS
  have hown : s.vm.findClass RNU = some m.cls := hown
  have hl : lv_has ls 3 [(0, .ref h0), (1, .int (nI k)), (2, .int n)] := hl
  refine lv_aload_n hx hb dNU_isKnown_0 rfl (lv_at hl 0 rfl) ?_
  refine lv_iload_n hx hb dNU_isKnown_1 rfl (lv_at hl 1 rfl) ?_
  refine lv_iload_n hx hb dNU_isKnown_2 rfl (lv_at hl 2 rfl) ?_
  refine k_V (wr := []) (W1 := [(h0, .inr (3, [.ref h1, .ref h2])), (h1, .inl (cI, 8, .inl md)), (h2, .inl (cJ, 8, .inr (.inl kn)))]) (st1 := [.int (f_wasMade md k n)]) ⟨hx, hb, hml, hown, hts⟩ (k_NU_wasMade l dC dI cI cJ cG cZ h0 h1 h2 md kn k n hk) (cwV 2 hts (k_gV m_l_NU_25 m_i_NU_wasMade m_s_NU_wasMade m_in_NU m_c_NU_wasMade) rfl rfl rfl (by decide +kernel) ⟨Nat.le_of_ble_eq_true rfl, Nat.le_of_ble_eq_true rfl⟩) hK hF hP hD hS hA [0, 1, 2] [] [0, 1, 2] rfl rfl (by decide) (by decide) (by decide) rfl (by decide) rfl rfl rfl rfl hl.1 rfl (Nat.le_of_ble_eq_true rfl) dNU_isKnown_3 ⟨Nat.le_of_ble_eq_true rfl, Nat.le_of_ble_eq_true rfl⟩ rfl (fun H locs hP hD hS => ?_)
  refine lv_if_eq (tgt := 29) hx hb dNU_isKnown_6 (by decide) (fun c_1 => ?_) (fun c_1 => ?_)
  · refine lv_iconst (v := 0) hx hb dNU_isKnown_29 (by decide) ?_
    exact k_zret hx hb hr hlocks rfl hP hK hD hS (by unfold f_isKnown; rw [if_pos c_1]) dNU_isKnown_30 ⟨Nat.le_of_ble_eq_true rfl, Nat.le_of_ble_eq_true rfl⟩
  · refine lv_aload_n hx hb dNU_isKnown_9 rfl (lv_at hl 0 rfl) ?_
    refine va_get (D := (dC, dI)) (ci := 3) (v := .ref h2) (C := RNU) (T := TNU) (N := 2) hx hb hts inNU hown hK hP 0 rfl rfl 1 (by decide) (hts _ m_f_NU_15) (fun _ h9 => h9) rfl dNU_isKnown_10 ?_
    refine lv_iload_n hx hb dNU_isKnown_13 rfl (lv_at hl 1 rfl) ?_
    refine k_lld (v := kn k) hx hb hK hP 2 1 rfl rfl (j := k) rfl hk (by decide) rfl dNU_isKnown_14 ?_
    refine lv_iload_n hx hb dNU_isKnown_15 rfl (lv_at hl 2 rfl) ?_
    refine k_S (wr := [(h0, .inr (3, [.ref h1, .ref h2])), (h1, .inl (cI, 8, .inl md)), (h2, .inl (cJ, 8, .inr (.inl kn)))]) (W1 := [(h0, .inr (3, [.ref h1, .ref h2])), (h1, .inl (cI, 8, .inl md)), (h2, .inl (cJ, 8, .inr (.inl kn)))]) (st1 := [.long (f_bit n), .long (kn k)]) ⟨hx, hb, hml, hown, hts⟩ (k_NU_bitOf l dC dI cI cJ cG cZ n) (va_cwS 1 hts (k_gS m_l_NU_19 m_st_NU_bitOf m_in_NU m_c_NU_bitOf) rfl rfl rfl (by decide +kernel) ⟨Nat.le_of_ble_eq_true rfl, Nat.le_of_ble_eq_true rfl⟩) hK hF hP hD hS hA [] [0, 1, 2] [0, 1, 2] rfl rfl (by decide) (by decide) (by decide) rfl (by decide) rfl hl.1 rfl (Nat.le_of_ble_eq_true rfl) dNU_isKnown_16 ⟨Nat.le_of_ble_eq_true rfl, Nat.le_of_ble_eq_true rfl⟩ rfl (fun H locs hP hD hS => ?_)
    refine lv_land hx hb dNU_isKnown_19 ?_
    refine lv_lconst (v := 0) hx hb dNU_isKnown_20 (by decide) ?_
    refine W.lcmp hx hb dNU_isKnown_21 ?_
    refine lv_if_eq (tgt := 29) hx hb dNU_isKnown_22 (by decide) (fun c_2 => ?_) (fun c_2 => ?_)
    · refine lv_iconst (v := 0) hx hb dNU_isKnown_29 (by decide) ?_
      exact k_zret hx hb hr hlocks rfl hP hK hD hS (by unfold f_isKnown; rw [if_neg c_1, if_pos c_2]) dNU_isKnown_30 ⟨Nat.le_of_ble_eq_true rfl, Nat.le_of_ble_eq_true rfl⟩
    · refine lv_iconst (v := 1) hx hb dNU_isKnown_25 (by decide) ?_
      refine lv_goto (tgt := 30) hx hb dNU_isKnown_26 (by decide) ?_
      exact k_zret hx hb hr hlocks rfl hP hK hD hS (by unfold f_isKnown; rw [if_neg c_1, if_neg c_2]) dNU_isKnown_30 ⟨Nat.le_of_ble_eq_true rfl, Nat.le_of_ble_eq_true rfl⟩
end
section
def f_find (P : Nat → Bool) (i : Int32) : Nat → Nat → Nat → Int32
  | 0, _, _ => -1
  | f + 1, n, b => if P n = true then (if nI b = i then nI n else f_find P i f (n + 1) (b + 1)) else f_find P i f (n + 1) b
theorem f_find0 {P : Nat → Bool} {i : Int32} {f n b : Nat} (h : f = 0) : f_find P i f n b = -1 := by subst h; rfl
theorem f_findY {P : Nat → Bool} {i : Int32} {f g n b : Nat} (h : f = g + 1) (h1 : P n = true) (h2 : nI b = i) : f_find P i f n b = nI n := by subst h; simp only [f_find, if_pos h1, if_pos h2]
theorem f_findG {P : Nat → Bool} {i : Int32} {f g n b : Nat} (h : f = g + 1) (h1 : P n = true) (h2 : ¬ nI b = i) : f_find P i f n b = f_find P i g (n + 1) (b + 1) := by subst h; simp only [f_find, if_pos h1, if_neg h2]
theorem f_findN {P : Nat → Bool} {i : Int32} {f g n b : Nat} (h : f = g + 1) (h1 : ¬ P n = true) : f_find P i f n b = f_find P i g (n + 1) b := by subst h; simp only [f_find, if_neg h1]
def f_P (md : Nat → Int32) (kn : Nat → Int64) (k n : Nat) : Bool := decide (¬ f_isKnown md kn k (nI n) = 0)
def f_js (z : Nat) : Nat := if z < 64 then z + 1 else z
def f_ix (q z j : Nat) : Nat := (q + 64 - z + j) % 64
theorem f_js_le {z : Nat} (h : z ≤ 64) : f_js z ≤ 64 := by unfold f_js; split <;> omega
theorem f_ix_lt (q z j : Nat) : f_ix q z j < 64 := Nat.mod_lt _ (by decide)
theorem f_nx {q : Nat} (hq : q < 64) : nI q + 1 - (nI q + 1) / 64 * 64 = nI ((q + 1) % 64) := by
  rw [nI_1]
  exact pk_rem (a := q + 1) (d := 64) (by omega) (by decide) (by decide)
theorem f_ixe {q z j : Nat} (hq : q < 64) (hz : z ≤ 64) (hj : j < 64) : nI q + 64 - nI z + nI j - (nI q + 64 - nI z + nI j) / 64 * 64 = nI (f_ix q z j) := by
  have e1 : nI q + 64 = nI (q + 64) := nI_add q 64
  rw [e1, pk_sub (by omega), nI_add]
  exact pk_rem (a := q + 64 - z + j) (d := 64) (by omega) (by decide) (by decide)
abbrev rm_PT_setAnswer : Room := { frames := 0, cells := 0, slots := 0, locals := 0 }
set_option maxHeartbeats 4000000 in
set_option maxRecDepth 100000 in
theorem k_PT_setAnswer (l : Launch) (dC : Nat → ClassId) (dI : Nat → Nat → Nat) (cI cJ cG cZ : ClassId) (h0 : Nat) (h1 : Nat) (h2 : Nat) (h3 : Nat) (an : Nat → Int64) (sm : Nat → Int64) (fl : Nat → Int32) (k : Nat) (v : Int64) (hk : k < 12) : k_M l yPT_setAnswer wsPT_setAnswer rm_PT_setAnswer (dC, dI) vwCl [(cI, .int), (cJ, .long), (cG, .array .long), (cZ, .boolean)] [.ref h0, .int (nI k), .long v] [(h0, .inr (4, [.ref h1, .ref h2, .ref h3])), (h1, .inl (cJ, 12, .inr (.inl an))), (h2, .inl (cJ, 12, .inr (.inl sm))), (h3, .inl (cI, 12, .inl fl))] none [(h0, .inr (4, [.ref h1, .ref h2, .ref h3])), (h1, .inl (cJ, 12, .inr (.inl (vp_updL an k v)))), (h2, .inl (cJ, 12, .inr (.inl sm))), (h3, .inl (cI, 12, .inl fl))] := by
  refine k_of (cc := cPT_setAnswer) (maxL := 4) (ret := none) (by decide) rfl (Nat.le_of_ble_eq_true rfl) ?_
  intro p e s m below meth c A ls hx hb hr hlocks hml hown hts hA hP hD hK hF hl hS
  have hown : s.vm.findClass RPT = some m.cls := hown
  have hl : lv_has ls 4 [(0, .ref h0), (1, .int (nI k)), (2, .long v)] := hl
  refine lv_aload_n hx hb dPT_setAnswer_0 rfl (lv_at hl 0 rfl) ?_
  refine va_get (D := (dC, dI)) (ci := 4) (v := .ref h1) (C := RPT) (T := TPT) (N := 3) hx hb hts inPT hown hK hP 0 rfl rfl 0 (by decide) (hts _ m_f_PT_9) (fun _ h9 => h9) rfl dPT_setAnswer_1 ?_
  refine lv_iload_n hx hb dPT_setAnswer_4 rfl (lv_at hl 1 rfl) ?_
  refine lv_lload_n hx hb dPT_setAnswer_5 rfl (lv_at hl 2 rfl) ?_
  refine k_lst (W1 := [(h0, .inr (4, [.ref h1, .ref h2, .ref h3])), (h1, .inl (cJ, 12, .inr (.inl (vp_updL an k v)))), (h2, .inl (cJ, 12, .inr (.inl sm))), (h3, .inl (cI, 12, .inl fl))]) hx hb hK hP hD hS 1 1 rfl rfl (j := k) rfl hk (by decide) rfl dPT_setAnswer_6 (fun H locs hP hD hS => ?_)
  exact k_vret hx hb hr hlocks hP hK hD hS dPT_setAnswer_7 ⟨Nat.le_of_ble_eq_true rfl, Nat.le_of_ble_eq_true rfl⟩

abbrev rm_PT_setFailure : Room := { frames := 0, cells := 0, slots := 0, locals := 0 }
set_option maxHeartbeats 4000000 in
set_option maxRecDepth 100000 in
theorem k_PT_setFailure (l : Launch) (dC : Nat → ClassId) (dI : Nat → Nat → Nat) (cI cJ cG cZ : ClassId) (h0 : Nat) (h1 : Nat) (h2 : Nat) (h3 : Nat) (an : Nat → Int64) (sm : Nat → Int64) (fl : Nat → Int32) (k : Nat) (v : Int32) (hk : k < 12) : k_M l yPT_setFailure wsPT_setFailure rm_PT_setFailure (dC, dI) vwCl [(cI, .int), (cJ, .long), (cG, .array .long), (cZ, .boolean)] [.ref h0, .int (nI k), .int v] [(h0, .inr (4, [.ref h1, .ref h2, .ref h3])), (h1, .inl (cJ, 12, .inr (.inl an))), (h2, .inl (cJ, 12, .inr (.inl sm))), (h3, .inl (cI, 12, .inl fl))] none [(h0, .inr (4, [.ref h1, .ref h2, .ref h3])), (h1, .inl (cJ, 12, .inr (.inl an))), (h2, .inl (cJ, 12, .inr (.inl sm))), (h3, .inl (cI, 12, .inl (upd fl k v)))] := by
  refine k_of (cc := cPT_setFailure) (maxL := 3) (ret := none) (by decide) rfl (Nat.le_of_ble_eq_true rfl) ?_
  intro p e s m below meth c A ls hx hb hr hlocks hml hown hts hA hP hD hK hF hl hS
  have hown : s.vm.findClass RPT = some m.cls := hown
  have hl : lv_has ls 3 [(0, .ref h0), (1, .int (nI k)), (2, .int v)] := hl
  refine lv_aload_n hx hb dPT_setFailure_0 rfl (lv_at hl 0 rfl) ?_
  refine va_get (D := (dC, dI)) (ci := 4) (v := .ref h3) (C := RPT) (T := TPT) (N := 3) hx hb hts inPT hown hK hP 0 rfl rfl 2 (by decide) (hts _ m_f_PT_18) (fun _ h9 => h9) rfl dPT_setFailure_1 ?_
  refine lv_iload_n hx hb dPT_setFailure_4 rfl (lv_at hl 1 rfl) ?_
  refine lv_iload_n hx hb dPT_setFailure_5 rfl (lv_at hl 2 rfl) ?_
  refine k_ist (W1 := [(h0, .inr (4, [.ref h1, .ref h2, .ref h3])), (h1, .inl (cJ, 12, .inr (.inl an))), (h2, .inl (cJ, 12, .inr (.inl sm))), (h3, .inl (cI, 12, .inl (upd fl k v)))]) hx hb hK hP hD hS 3 0 rfl rfl (j := k) rfl hk (by decide) rfl dPT_setFailure_6 (fun H locs hP hD hS => ?_)
  exact k_vret hx hb hr hlocks hP hK hD hS dPT_setFailure_7 ⟨Nat.le_of_ble_eq_true rfl, Nat.le_of_ble_eq_true rfl⟩

abbrev rm_PT_sumOf : Room := { frames := 0, cells := 0, slots := 0, locals := 0 }
set_option maxHeartbeats 4000000 in
set_option maxRecDepth 100000 in
theorem k_PT_sumOf (l : Launch) (dC : Nat → ClassId) (dI : Nat → Nat → Nat) (cI cJ cG cZ : ClassId) (h0 : Nat) (h1 : Nat) (h2 : Nat) (h3 : Nat) (an : Nat → Int64) (sm : Nat → Int64) (fl : Nat → Int32) (k : Nat) (hk : k < 12) : k_M l yPT_sumOf wsPT_sumOf rm_PT_sumOf (dC, dI) vwCl [(cI, .int), (cJ, .long), (cG, .array .long), (cZ, .boolean)] [.ref h0, .int (nI k)] [(h0, .inr (4, [.ref h1, .ref h2, .ref h3])), (h1, .inl (cJ, 12, .inr (.inl an))), (h2, .inl (cJ, 12, .inr (.inl sm))), (h3, .inl (cI, 12, .inl fl))] (some (.long (sm k))) [(h0, .inr (4, [.ref h1, .ref h2, .ref h3])), (h1, .inl (cJ, 12, .inr (.inl an))), (h2, .inl (cJ, 12, .inr (.inl sm))), (h3, .inl (cI, 12, .inl fl))] := by
  refine k_of (cc := cPT_sumOf) (maxL := 2) (ret := (some .long)) (by decide) rfl (Nat.le_of_ble_eq_true rfl) ?_
  intro p e s m below meth c A ls hx hb hr hlocks hml hown hts hA hP hD hK hF hl hS
  have hown : s.vm.findClass RPT = some m.cls := hown
  have hl : lv_has ls 2 [(0, .ref h0), (1, .int (nI k))] := hl
  refine lv_aload_n hx hb dPT_sumOf_0 rfl (lv_at hl 0 rfl) ?_
  refine va_get (D := (dC, dI)) (ci := 4) (v := .ref h2) (C := RPT) (T := TPT) (N := 3) hx hb hts inPT hown hK hP 0 rfl rfl 1 (by decide) (hts _ m_f_PT_15) (fun _ h9 => h9) rfl dPT_sumOf_1 ?_
  refine lv_iload_n hx hb dPT_sumOf_4 rfl (lv_at hl 1 rfl) ?_
  refine k_lld (v := sm k) hx hb hK hP 2 1 rfl rfl (j := k) rfl hk (by decide) rfl dPT_sumOf_5 ?_
  exact k_lret hx hb hr hlocks hP hK hD hS rfl dPT_sumOf_6 ⟨Nat.le_of_ble_eq_true rfl, Nat.le_of_ble_eq_true rfl⟩

abbrev rm_PT_restoreSum : Room := { frames := 0, cells := 0, slots := 0, locals := 0 }
set_option maxHeartbeats 4000000 in
set_option maxRecDepth 100000 in
theorem k_PT_restoreSum (l : Launch) (dC : Nat → ClassId) (dI : Nat → Nat → Nat) (cI cJ cG cZ : ClassId) (h0 : Nat) (h1 : Nat) (h2 : Nat) (h3 : Nat) (an : Nat → Int64) (sm : Nat → Int64) (fl : Nat → Int32) (k : Nat) (v : Int64) (hk : k < 12) : k_M l yPT_restoreSum wsPT_restoreSum rm_PT_restoreSum (dC, dI) vwCl [(cI, .int), (cJ, .long), (cG, .array .long), (cZ, .boolean)] [.ref h0, .int (nI k), .long v] [(h0, .inr (4, [.ref h1, .ref h2, .ref h3])), (h1, .inl (cJ, 12, .inr (.inl an))), (h2, .inl (cJ, 12, .inr (.inl sm))), (h3, .inl (cI, 12, .inl fl))] none [(h0, .inr (4, [.ref h1, .ref h2, .ref h3])), (h1, .inl (cJ, 12, .inr (.inl an))), (h2, .inl (cJ, 12, .inr (.inl (vp_updL sm k v)))), (h3, .inl (cI, 12, .inl fl))] := by
  refine k_of (cc := cPT_restoreSum) (maxL := 4) (ret := none) (by decide) rfl (Nat.le_of_ble_eq_true rfl) ?_
  intro p e s m below meth c A ls hx hb hr hlocks hml hown hts hA hP hD hK hF hl hS
  have hown : s.vm.findClass RPT = some m.cls := hown
  have hl : lv_has ls 4 [(0, .ref h0), (1, .int (nI k)), (2, .long v)] := hl
  refine lv_aload_n hx hb dPT_restoreSum_0 rfl (lv_at hl 0 rfl) ?_
  refine va_get (D := (dC, dI)) (ci := 4) (v := .ref h2) (C := RPT) (T := TPT) (N := 3) hx hb hts inPT hown hK hP 0 rfl rfl 1 (by decide) (hts _ m_f_PT_15) (fun _ h9 => h9) rfl dPT_restoreSum_1 ?_
  refine lv_iload_n hx hb dPT_restoreSum_4 rfl (lv_at hl 1 rfl) ?_
  refine lv_lload_n hx hb dPT_restoreSum_5 rfl (lv_at hl 2 rfl) ?_
  refine k_lst (W1 := [(h0, .inr (4, [.ref h1, .ref h2, .ref h3])), (h1, .inl (cJ, 12, .inr (.inl an))), (h2, .inl (cJ, 12, .inr (.inl (vp_updL sm k v)))), (h3, .inl (cI, 12, .inl fl))]) hx hb hK hP hD hS 2 1 rfl rfl (j := k) rfl hk (by decide) rfl dPT_restoreSum_6 (fun H locs hP hD hS => ?_)
  exact k_vret hx hb hr hlocks hP hK hD hS dPT_restoreSum_7 ⟨Nat.le_of_ble_eq_true rfl, Nat.le_of_ble_eq_true rfl⟩
abbrev rm_TL_countAnswered : Room := { frames := 0, cells := 0, slots := 0, locals := 0 }
set_option maxHeartbeats 4000000 in
set_option maxRecDepth 100000 in
theorem k_TL_countAnswered (l : Launch) (dC : Nat → ClassId) (dI : Nat → Nat → Nat) (cI cJ cG cZ : ClassId) (h0 : Nat) (h1 : Nat) (tf : Nat → Int64) : k_M l yTL_countAnswered wsTL_countAnswered rm_TL_countAnswered (dC, dI) vwCl [(cI, .int), (cJ, .long), (cG, .array .long), (cZ, .boolean)] [.ref h0] [(h0, .inr (5, [.ref h1])), (h1, .inl (cJ, 8, .inr (.inl tf)))] none [(h0, .inr (5, [.ref h1])), (h1, .inl (cJ, 8, .inr (.inl (vp_updL tf 0 (tf 0 + 1)))))] := by
  refine k_of (cc := cTL_countAnswered) (maxL := 1) (ret := none) (by decide) rfl (Nat.le_of_ble_eq_true rfl) ?_
  intro p e s m below meth c A ls hx hb hr hlocks hml hown hts hA hP hD hK hF hl hS
  have hown : s.vm.findClass RTL = some m.cls := hown
  have hl : lv_has ls 1 [(0, .ref h0)] := hl
  refine lv_aload_n hx hb dTL_countAnswered_0 rfl (lv_at hl 0 rfl) ?_
  refine va_get (D := (dC, dI)) (ci := 5) (v := .ref h1) (C := RTL) (T := TTL) (N := 1) hx hb hts inTL hown hK hP 0 rfl rfl 0 (by decide) (hts _ m_f_TL_9) (fun _ h9 => h9) rfl dTL_countAnswered_1 ?_
  refine lv_iconst (v := 0) hx hb dTL_countAnswered_4 (by decide) ?_
  refine lv_dup2_11 hx hb dTL_countAnswered_5 rfl rfl ?_
  refine k_lld (v := tf 0) hx hb hK hP 1 1 rfl rfl (j := 0) (by decide) (by decide) (by decide) rfl dTL_countAnswered_6 ?_
  refine lv_lconst (v := 1) hx hb dTL_countAnswered_7 (by decide) ?_
  refine lv_ladd hx hb dTL_countAnswered_8 ?_
  refine k_lst (W1 := [(h0, .inr (5, [.ref h1])), (h1, .inl (cJ, 8, .inr (.inl (vp_updL tf 0 ((tf 0) + 1)))))]) hx hb hK hP hD hS 1 1 rfl rfl (j := 0) (by decide) (by decide) (by decide) rfl dTL_countAnswered_9 (fun H locs hP hD hS => ?_)
  exact k_vret hx hb hr hlocks hP hK hD hS dTL_countAnswered_10 ⟨Nat.le_of_ble_eq_true rfl, Nat.le_of_ble_eq_true rfl⟩

abbrev rm_TL_countRefused : Room := { frames := 0, cells := 0, slots := 0, locals := 0 }
set_option maxHeartbeats 4000000 in
set_option maxRecDepth 100000 in
theorem k_TL_countRefused (l : Launch) (dC : Nat → ClassId) (dI : Nat → Nat → Nat) (cI cJ cG cZ : ClassId) (h0 : Nat) (h1 : Nat) (tf : Nat → Int64) (k : Nat) (hk : k < 8) : k_M l yTL_countRefused wsTL_countRefused rm_TL_countRefused (dC, dI) vwCl [(cI, .int), (cJ, .long), (cG, .array .long), (cZ, .boolean)] [.ref h0, .int (nI k)] [(h0, .inr (5, [.ref h1])), (h1, .inl (cJ, 8, .inr (.inl tf)))] none [(h0, .inr (5, [.ref h1])), (h1, .inl (cJ, 8, .inr (.inl (vp_updL tf k (tf k + 1)))))] := by
  refine k_of (cc := cTL_countRefused) (maxL := 2) (ret := none) (by decide) rfl (Nat.le_of_ble_eq_true rfl) ?_
  intro p e s m below meth c A ls hx hb hr hlocks hml hown hts hA hP hD hK hF hl hS
  have hown : s.vm.findClass RTL = some m.cls := hown
  have hl : lv_has ls 2 [(0, .ref h0), (1, .int (nI k))] := hl
  refine lv_aload_n hx hb dTL_countRefused_0 rfl (lv_at hl 0 rfl) ?_
  refine va_get (D := (dC, dI)) (ci := 5) (v := .ref h1) (C := RTL) (T := TTL) (N := 1) hx hb hts inTL hown hK hP 0 rfl rfl 0 (by decide) (hts _ m_f_TL_9) (fun _ h9 => h9) rfl dTL_countRefused_1 ?_
  refine lv_iload_n hx hb dTL_countRefused_4 rfl (lv_at hl 1 rfl) ?_
  refine lv_dup2_11 hx hb dTL_countRefused_5 rfl rfl ?_
  refine k_lld (v := tf k) hx hb hK hP 1 1 rfl rfl (j := k) rfl hk (by decide) rfl dTL_countRefused_6 ?_
  refine lv_lconst (v := 1) hx hb dTL_countRefused_7 (by decide) ?_
  refine lv_ladd hx hb dTL_countRefused_8 ?_
  refine k_lst (W1 := [(h0, .inr (5, [.ref h1])), (h1, .inl (cJ, 8, .inr (.inl (vp_updL tf k ((tf k) + 1)))))]) hx hb hK hP hD hS 1 1 rfl rfl (j := k) rfl hk (by decide) rfl dTL_countRefused_9 (fun H locs hP hD hS => ?_)
  exact k_vret hx hb hr hlocks hP hK hD hS dTL_countRefused_10 ⟨Nat.le_of_ble_eq_true rfl, Nat.le_of_ble_eq_true rfl⟩

abbrev rm_TL_countFailure : Room := { frames := 0, cells := 0, slots := 0, locals := 0 }
set_option maxHeartbeats 4000000 in
set_option maxRecDepth 100000 in
theorem k_TL_countFailure (l : Launch) (dC : Nat → ClassId) (dI : Nat → Nat → Nat) (cI cJ cG cZ : ClassId) (h0 : Nat) (h1 : Nat) (tf : Nat → Int64) (x : Int32) (y : Int32) (z : Int32) : k_M l yTL_countFailure wsTL_countFailure rm_TL_countFailure (dC, dI) vwCl [(cI, .int), (cJ, .long), (cG, .array .long), (cZ, .boolean)] [.ref h0, .int x, .int y, .int z] [(h0, .inr (5, [.ref h1])), (h1, .inl (cJ, 8, .inr (.inl tf)))] none [(h0, .inr (5, [.ref h1])), (h1, .inl (cJ, 8, .inr (.inl (vp_updL (vp_updL (vp_updL (vp_updL tf 4 (tf 4 + 1)) 5 (x.toInt64)) 6 (y.toInt64)) 7 (z.toInt64)))))] := by
  refine k_of (cc := cTL_countFailure) (maxL := 4) (ret := none) (by decide) rfl (Nat.le_of_ble_eq_true rfl) ?_
  intro p e s m below meth c A ls hx hb hr hlocks hml hown hts hA hP hD hK hF hl hS
  have hown : s.vm.findClass RTL = some m.cls := hown
  have hl : lv_has ls 4 [(0, .ref h0), (1, .int x), (2, .int y), (3, .int z)] := hl
  refine lv_aload_n hx hb dTL_countFailure_0 rfl (lv_at hl 0 rfl) ?_
  refine va_get (D := (dC, dI)) (ci := 5) (v := .ref h1) (C := RTL) (T := TTL) (N := 1) hx hb hts inTL hown hK hP 0 rfl rfl 0 (by decide) (hts _ m_f_TL_9) (fun _ h9 => h9) rfl dTL_countFailure_1 ?_
  refine lv_iconst (v := 4) hx hb dTL_countFailure_4 (by decide) ?_
  refine lv_dup2_11 hx hb dTL_countFailure_5 rfl rfl ?_
  refine k_lld (v := tf 4) hx hb hK hP 1 1 rfl rfl (j := 4) (by decide) (by decide) (by decide) rfl dTL_countFailure_6 ?_
  refine lv_lconst (v := 1) hx hb dTL_countFailure_7 (by decide) ?_
  refine lv_ladd hx hb dTL_countFailure_8 ?_
  refine k_lst (W1 := [(h0, .inr (5, [.ref h1])), (h1, .inl (cJ, 8, .inr (.inl (vp_updL tf 4 ((tf 4) + 1)))))]) hx hb hK hP hD hS 1 1 rfl rfl (j := 4) (by decide) (by decide) (by decide) rfl dTL_countFailure_9 (fun H locs hP hD hS => ?_)
  refine lv_aload_n hx hb dTL_countFailure_10 rfl (lv_at hl 0 rfl) ?_
  refine va_get (D := (dC, dI)) (ci := 5) (v := .ref h1) (C := RTL) (T := TTL) (N := 1) hx hb hts inTL hown hK hP 0 rfl rfl 0 (by decide) (hts _ m_f_TL_9) (fun _ h9 => h9) rfl dTL_countFailure_11 ?_
  refine lv_iconst (v := 5) hx hb dTL_countFailure_14 (by decide) ?_
  refine lv_iload_n hx hb dTL_countFailure_15 rfl (lv_at hl 1 rfl) ?_
  refine lv_i2l hx hb dTL_countFailure_16 rfl ?_
  refine k_lst (W1 := [(h0, .inr (5, [.ref h1])), (h1, .inl (cJ, 8, .inr (.inl (vp_updL (vp_updL tf 4 ((tf 4) + 1)) 5 x.toInt64))))]) hx hb hK hP hD hS 1 1 rfl rfl (j := 5) (by decide) (by decide) (by decide) rfl dTL_countFailure_17 (fun H locs hP hD hS => ?_)
  refine lv_aload_n hx hb dTL_countFailure_18 rfl (lv_at hl 0 rfl) ?_
  refine va_get (D := (dC, dI)) (ci := 5) (v := .ref h1) (C := RTL) (T := TTL) (N := 1) hx hb hts inTL hown hK hP 0 rfl rfl 0 (by decide) (hts _ m_f_TL_9) (fun _ h9 => h9) rfl dTL_countFailure_19 ?_
  refine lv_bipush (v := 6) hx hb dTL_countFailure_22 (by decide) ?_
  refine lv_iload_n hx hb dTL_countFailure_24 rfl (lv_at hl 2 rfl) ?_
  refine lv_i2l hx hb dTL_countFailure_25 rfl ?_
  refine k_lst (W1 := [(h0, .inr (5, [.ref h1])), (h1, .inl (cJ, 8, .inr (.inl (vp_updL (vp_updL (vp_updL tf 4 ((tf 4) + 1)) 5 x.toInt64) 6 y.toInt64))))]) hx hb hK hP hD hS 1 1 rfl rfl (j := 6) (by decide) (by decide) (by decide) rfl dTL_countFailure_26 (fun H locs hP hD hS => ?_)
  refine lv_aload_n hx hb dTL_countFailure_27 rfl (lv_at hl 0 rfl) ?_
  refine va_get (D := (dC, dI)) (ci := 5) (v := .ref h1) (C := RTL) (T := TTL) (N := 1) hx hb hts inTL hown hK hP 0 rfl rfl 0 (by decide) (hts _ m_f_TL_9) (fun _ h9 => h9) rfl dTL_countFailure_28 ?_
  refine lv_bipush (v := 7) hx hb dTL_countFailure_31 (by decide) ?_
  refine lv_iload_n hx hb dTL_countFailure_33 rfl (lv_at hl 3 rfl) ?_
  refine lv_i2l hx hb dTL_countFailure_34 rfl ?_
  refine k_lst (W1 := [(h0, .inr (5, [.ref h1])), (h1, .inl (cJ, 8, .inr (.inl (vp_updL (vp_updL (vp_updL (vp_updL tf 4 ((tf 4) + 1)) 5 x.toInt64) 6 y.toInt64) 7 z.toInt64))))]) hx hb hK hP hD hS 1 1 rfl rfl (j := 7) (by decide) (by decide) (by decide) rfl dTL_countFailure_35 (fun H locs hP hD hS => ?_)
  exact k_vret hx hb hr hlocks hP hK hD hS dTL_countFailure_36 ⟨Nat.le_of_ble_eq_true rfl, Nat.le_of_ble_eq_true rfl⟩

abbrev rm_TL_fact : Room := { frames := 0, cells := 0, slots := 0, locals := 0 }
set_option maxHeartbeats 4000000 in
set_option maxRecDepth 100000 in
theorem k_TL_fact (l : Launch) (dC : Nat → ClassId) (dI : Nat → Nat → Nat) (cI cJ cG cZ : ClassId) (h0 : Nat) (h1 : Nat) (tf : Nat → Int64) (k : Nat) (hk : k < 8) : k_M l yTL_fact wsTL_fact rm_TL_fact (dC, dI) vwCl [(cI, .int), (cJ, .long), (cG, .array .long), (cZ, .boolean)] [.ref h0, .int (nI k)] [(h0, .inr (5, [.ref h1])), (h1, .inl (cJ, 8, .inr (.inl tf)))] (some (.long (tf k))) [(h0, .inr (5, [.ref h1])), (h1, .inl (cJ, 8, .inr (.inl tf)))] := by
  refine k_of (cc := cTL_fact) (maxL := 2) (ret := (some .long)) (by decide) rfl (Nat.le_of_ble_eq_true rfl) ?_
  intro p e s m below meth c A ls hx hb hr hlocks hml hown hts hA hP hD hK hF hl hS
  have hown : s.vm.findClass RTL = some m.cls := hown
  have hl : lv_has ls 2 [(0, .ref h0), (1, .int (nI k))] := hl
  refine lv_aload_n hx hb dTL_fact_0 rfl (lv_at hl 0 rfl) ?_
  refine va_get (D := (dC, dI)) (ci := 5) (v := .ref h1) (C := RTL) (T := TTL) (N := 1) hx hb hts inTL hown hK hP 0 rfl rfl 0 (by decide) (hts _ m_f_TL_9) (fun _ h9 => h9) rfl dTL_fact_1 ?_
  refine lv_iload_n hx hb dTL_fact_4 rfl (lv_at hl 1 rfl) ?_
  refine k_lld (v := tf k) hx hb hK hP 1 1 rfl rfl (j := k) rfl hk (by decide) rfl dTL_fact_5 ?_
  exact k_lret hx hb hr hlocks hP hK hD hS rfl dTL_fact_6 ⟨Nat.le_of_ble_eq_true rfl, Nat.le_of_ble_eq_true rfl⟩
abbrev rm_JN_size : Room := { frames := 0, cells := 0, slots := 0, locals := 0 }
set_option maxHeartbeats 4000000 in
set_option maxRecDepth 100000 in
theorem k_JN_size (l : Launch) (dC : Nat → ClassId) (dI : Nat → Nat → Nat) (cI cJ cG cZ : ClassId) (h0 : Nat) (h1 : Nat) (rg : Nat → Int64) (z : Nat) (q : Nat) : k_M l yJN_size wsJN_size rm_JN_size (dC, dI) vwCl [(cI, .int), (cJ, .long), (cG, .array .long), (cZ, .boolean)] [.ref h0] [(h0, .inr (2, [.ref h1, .int (nI z), .int (nI q)])), (h1, .inl (cJ, 64, .inr (.inl rg)))] (some (.int (nI z))) [(h0, .inr (2, [.ref h1, .int (nI z), .int (nI q)])), (h1, .inl (cJ, 64, .inr (.inl rg)))] := by
  refine k_of (cc := cJN_size) (maxL := 1) (ret := (some .int)) (by decide) rfl (Nat.le_of_ble_eq_true rfl) ?_
  intro p e s m below meth c A ls hx hb hr hlocks hml hown hts hA hP hD hK hF hl hS
  have hown : s.vm.findClass RJN = some m.cls := hown
  have hl : lv_has ls 1 [(0, .ref h0)] := hl
  refine lv_aload_n hx hb dJN_size_0 rfl (lv_at hl 0 rfl) ?_
  refine va_get (D := (dC, dI)) (ci := 2) (v := .int (nI z)) (C := RJN) (T := TJN) (N := 3) hx hb hts inJN hown hK hP 0 rfl rfl 1 (by decide) (hts _ m_f_JN_13) (fun _ h9 => h9) rfl dJN_size_1 ?_
  exact k_iret hx hb hr hlocks hP hK hD hS rfl dJN_size_4 ⟨Nat.le_of_ble_eq_true rfl, Nat.le_of_ble_eq_true rfl⟩

abbrev rm_JN_write : Room := { frames := 0, cells := 0, slots := 0, locals := 0 }
set_option maxHeartbeats 4000000 in
set_option maxRecDepth 100000 in
theorem k_JN_write (l : Launch) (dC : Nat → ClassId) (dI : Nat → Nat → Nat) (cI cJ cG cZ : ClassId) (h0 : Nat) (h1 : Nat) (rg : Nat → Int64) (z : Nat) (q : Nat) (v : Int64) (hz : z ≤ 64) (hq : q < 64) : k_M l yJN_write wsJN_write rm_JN_write (dC, dI) vwCl [(cI, .int), (cJ, .long), (cG, .array .long), (cZ, .boolean)] [.ref h0, .long v] [(h0, .inr (2, [.ref h1, .int (nI z), .int (nI q)])), (h1, .inl (cJ, 64, .inr (.inl rg)))] none [(h0, .inr (2, [.ref h1, .int (nI (f_js z)), .int (nI ((q + 1) % 64))])), (h1, .inl (cJ, 64, .inr (.inl (vp_updL rg q v))))] := by
  rcases Nat.lt_or_ge z 64 with hz1 | hz1
  · rw [show f_js z = z + 1 from if_pos hz1]
    refine k_of (cc := cJN_write) (maxL := 3) (ret := none) (by decide) rfl (Nat.le_of_ble_eq_true rfl) ?_
    intro p e s m below meth c A ls hx hb hr hlocks hml hown hts hA hP hD hK hF hl hS
    have hown : s.vm.findClass RJN = some m.cls := hown
    have hl : lv_has ls 3 [(0, .ref h0), (1, .long v)] := hl
    refine lv_aload_n hx hb dJN_write_0 rfl (lv_at hl 0 rfl) ?_
    refine va_get (D := (dC, dI)) (ci := 2) (v := .ref h1) (C := RJN) (T := TJN) (N := 3) hx hb hts inJN hown hK hP 0 rfl rfl 0 (by decide) (hts _ m_f_JN_9) (fun _ h9 => h9) rfl dJN_write_1 ?_
    refine lv_aload_n hx hb dJN_write_4 rfl (lv_at hl 0 rfl) ?_
    refine va_get (D := (dC, dI)) (ci := 2) (v := .int (nI q)) (C := RJN) (T := TJN) (N := 3) hx hb hts inJN hown hK hP 0 rfl rfl 2 (by decide) (hts _ m_f_JN_17) (fun _ h9 => h9) rfl dJN_write_5 ?_
    refine lv_lload_n hx hb dJN_write_8 rfl (lv_at hl 1 rfl) ?_
    refine k_lst (W1 := [(h0, .inr (2, [.ref h1, .int (nI z), .int (nI q)])), (h1, .inl (cJ, 64, .inr (.inl (vp_updL rg q v))))]) hx hb hK hP hD hS 1 1 rfl rfl (j := q) rfl hq (by decide) rfl dJN_write_9 (fun H locs hP hD hS => ?_)
    refine lv_aload_n hx hb dJN_write_10 rfl (lv_at hl 0 rfl) ?_
    refine lv_aload_n hx hb dJN_write_11 rfl (lv_at hl 0 rfl) ?_
    refine va_get (D := (dC, dI)) (ci := 2) (v := .int (nI q)) (C := RJN) (T := TJN) (N := 3) hx hb hts inJN hown hK hP 0 rfl rfl 2 (by decide) (hts _ m_f_JN_17) (fun _ h9 => h9) rfl dJN_write_12 ?_
    refine lv_iconst (v := 1) hx hb dJN_write_15 (by decide) ?_
    refine lv_iadd hx hb dJN_write_16 ?_
    refine lv_bipush (v := 64) hx hb dJN_write_17 (by decide) ?_
    refine lv_irem hx hb dJN_write_19 (by decide) ?_
    refine k_topi (y := nI ((q + 1) % 64)) (f_nx hq) ?_
    refine va_put (D := (dC, dI)) (ci := 2) (v := .int (nI ((q + 1) % 64))) (ty := .int) (C := RJN) (T := TJN) (N := 3) hx hb hts inJN tyJN tyJN_ok nmJN hown hK hP hD hS 0 rfl rfl 2 (by decide) (hts _ m_f_JN_17) (fun _ h9 => h9) rfl (by decide +kernel) rfl rfl (Nat.le_of_ble_eq_true rfl) dJN_write_20 (fun H locs hP hD hS => ?_)
    have hP : va_P (dC, dI) vwCl [(h0, .inr (2, [.ref h1, .int (nI z), .int (nI ((q + 1) % 64))])), (h1, .inl (cJ, 64, .inr (.inl (vp_updL rg q v))))] H := hP
    have hD : va_D A [(h0, .inr (2, [.ref h1, .int (nI z), .int (nI ((q + 1) % 64))])), (h1, .inl (cJ, 64, .inr (.inl (vp_updL rg q v))))] := hD
    refine lv_aload_n hx hb dJN_write_23 rfl (lv_at hl 0 rfl) ?_
    refine va_get (D := (dC, dI)) (ci := 2) (v := .int (nI z)) (C := RJN) (T := TJN) (N := 3) hx hb hts inJN hown hK hP 0 rfl rfl 1 (by decide) (hts _ m_f_JN_13) (fun _ h9 => h9) rfl dJN_write_24 ?_
    refine lv_bipush (v := 64) hx hb dJN_write_27 (by decide) ?_
    refine lv_icmp_ge (tgt := 42) hx hb dJN_write_29 (by decide) (fun c_1 => ?_) (fun c_1 => ?_)
    · exact absurd ((n_le (n := 64) rfl (by decide) (by omega)).mp c_1) (by omega)
    · refine lv_aload_n hx hb dJN_write_32 rfl (lv_at hl 0 rfl) ?_
      refine lv_dup hx hb dJN_write_33 rfl ?_
      refine va_get (D := (dC, dI)) (ci := 2) (v := .int (nI z)) (C := RJN) (T := TJN) (N := 3) hx hb hts inJN hown hK hP 0 rfl rfl 1 (by decide) (hts _ m_f_JN_13) (fun _ h9 => h9) rfl dJN_write_34 ?_
      refine lv_iconst (v := 1) hx hb dJN_write_37 (by decide) ?_
      refine lv_iadd hx hb dJN_write_38 ?_
      refine k_topi (y := nI (z + 1)) (nI_1 z) ?_
      refine va_put (D := (dC, dI)) (ci := 2) (v := .int (nI (z + 1))) (ty := .int) (C := RJN) (T := TJN) (N := 3) hx hb hts inJN tyJN tyJN_ok nmJN hown hK hP hD hS 0 rfl rfl 1 (by decide) (hts _ m_f_JN_13) (fun _ h9 => h9) rfl (by decide +kernel) rfl rfl (Nat.le_of_ble_eq_true rfl) dJN_write_39 (fun H locs hP hD hS => ?_)
      have hP : va_P (dC, dI) vwCl [(h0, .inr (2, [.ref h1, .int (nI (z + 1)), .int (nI ((q + 1) % 64))])), (h1, .inl (cJ, 64, .inr (.inl (vp_updL rg q v))))] H := hP
      have hD : va_D A [(h0, .inr (2, [.ref h1, .int (nI (z + 1)), .int (nI ((q + 1) % 64))])), (h1, .inl (cJ, 64, .inr (.inl (vp_updL rg q v))))] := hD
      exact k_vret hx hb hr hlocks hP hK hD hS dJN_write_42 ⟨Nat.le_of_ble_eq_true rfl, Nat.le_of_ble_eq_true rfl⟩
  · rw [show f_js z = z from if_neg (by omega)]
    refine k_of (cc := cJN_write) (maxL := 3) (ret := none) (by decide) rfl (Nat.le_of_ble_eq_true rfl) ?_
    intro p e s m below meth c A ls hx hb hr hlocks hml hown hts hA hP hD hK hF hl hS
    have hown : s.vm.findClass RJN = some m.cls := hown
    have hl : lv_has ls 3 [(0, .ref h0), (1, .long v)] := hl
    refine lv_aload_n hx hb dJN_write_0 rfl (lv_at hl 0 rfl) ?_
    refine va_get (D := (dC, dI)) (ci := 2) (v := .ref h1) (C := RJN) (T := TJN) (N := 3) hx hb hts inJN hown hK hP 0 rfl rfl 0 (by decide) (hts _ m_f_JN_9) (fun _ h9 => h9) rfl dJN_write_1 ?_
    refine lv_aload_n hx hb dJN_write_4 rfl (lv_at hl 0 rfl) ?_
    refine va_get (D := (dC, dI)) (ci := 2) (v := .int (nI q)) (C := RJN) (T := TJN) (N := 3) hx hb hts inJN hown hK hP 0 rfl rfl 2 (by decide) (hts _ m_f_JN_17) (fun _ h9 => h9) rfl dJN_write_5 ?_
    refine lv_lload_n hx hb dJN_write_8 rfl (lv_at hl 1 rfl) ?_
    refine k_lst (W1 := [(h0, .inr (2, [.ref h1, .int (nI z), .int (nI q)])), (h1, .inl (cJ, 64, .inr (.inl (vp_updL rg q v))))]) hx hb hK hP hD hS 1 1 rfl rfl (j := q) rfl hq (by decide) rfl dJN_write_9 (fun H locs hP hD hS => ?_)
    refine lv_aload_n hx hb dJN_write_10 rfl (lv_at hl 0 rfl) ?_
    refine lv_aload_n hx hb dJN_write_11 rfl (lv_at hl 0 rfl) ?_
    refine va_get (D := (dC, dI)) (ci := 2) (v := .int (nI q)) (C := RJN) (T := TJN) (N := 3) hx hb hts inJN hown hK hP 0 rfl rfl 2 (by decide) (hts _ m_f_JN_17) (fun _ h9 => h9) rfl dJN_write_12 ?_
    refine lv_iconst (v := 1) hx hb dJN_write_15 (by decide) ?_
    refine lv_iadd hx hb dJN_write_16 ?_
    refine lv_bipush (v := 64) hx hb dJN_write_17 (by decide) ?_
    refine lv_irem hx hb dJN_write_19 (by decide) ?_
    refine k_topi (y := nI ((q + 1) % 64)) (f_nx hq) ?_
    refine va_put (D := (dC, dI)) (ci := 2) (v := .int (nI ((q + 1) % 64))) (ty := .int) (C := RJN) (T := TJN) (N := 3) hx hb hts inJN tyJN tyJN_ok nmJN hown hK hP hD hS 0 rfl rfl 2 (by decide) (hts _ m_f_JN_17) (fun _ h9 => h9) rfl (by decide +kernel) rfl rfl (Nat.le_of_ble_eq_true rfl) dJN_write_20 (fun H locs hP hD hS => ?_)
    have hP : va_P (dC, dI) vwCl [(h0, .inr (2, [.ref h1, .int (nI z), .int (nI ((q + 1) % 64))])), (h1, .inl (cJ, 64, .inr (.inl (vp_updL rg q v))))] H := hP
    have hD : va_D A [(h0, .inr (2, [.ref h1, .int (nI z), .int (nI ((q + 1) % 64))])), (h1, .inl (cJ, 64, .inr (.inl (vp_updL rg q v))))] := hD
    refine lv_aload_n hx hb dJN_write_23 rfl (lv_at hl 0 rfl) ?_
    refine va_get (D := (dC, dI)) (ci := 2) (v := .int (nI z)) (C := RJN) (T := TJN) (N := 3) hx hb hts inJN hown hK hP 0 rfl rfl 1 (by decide) (hts _ m_f_JN_13) (fun _ h9 => h9) rfl dJN_write_24 ?_
    refine lv_bipush (v := 64) hx hb dJN_write_27 (by decide) ?_
    refine lv_icmp_ge (tgt := 42) hx hb dJN_write_29 (by decide) (fun c_1 => ?_) (fun c_1 => ?_)
    · exact k_vret hx hb hr hlocks hP hK hD hS dJN_write_42 ⟨Nat.le_of_ble_eq_true rfl, Nat.le_of_ble_eq_true rfl⟩
    · exact absurd ((n_le (n := 64) rfl (by decide) (by omega)).mpr hz1) c_1

abbrev rm_JN_entryAt : Room := { frames := 0, cells := 0, slots := 0, locals := 0 }
set_option maxHeartbeats 4000000 in
set_option maxRecDepth 100000 in
theorem k_JN_entryAt (l : Launch) (dC : Nat → ClassId) (dI : Nat → Nat → Nat) (cI cJ cG cZ : ClassId) (h0 : Nat) (h1 : Nat) (rg : Nat → Int64) (z : Nat) (q : Nat) (j : Nat) (hz : z ≤ 64) (hq : q < 64) (hj : j < 64) : k_M l yJN_entryAt wsJN_entryAt rm_JN_entryAt (dC, dI) vwCl [(cI, .int), (cJ, .long), (cG, .array .long), (cZ, .boolean)] [.ref h0, .int (nI j)] [(h0, .inr (2, [.ref h1, .int (nI z), .int (nI q)])), (h1, .inl (cJ, 64, .inr (.inl rg)))] (some (.long (rg (f_ix q z j)))) [(h0, .inr (2, [.ref h1, .int (nI z), .int (nI q)])), (h1, .inl (cJ, 64, .inr (.inl rg)))] := by
  refine k_of (cc := cJN_entryAt) (maxL := 2) (ret := (some .long)) (by decide) rfl (Nat.le_of_ble_eq_true rfl) ?_
  intro p e s m below meth c A ls hx hb hr hlocks hml hown hts hA hP hD hK hF hl hS
  have hown : s.vm.findClass RJN = some m.cls := hown
  have hl : lv_has ls 2 [(0, .ref h0), (1, .int (nI j))] := hl
  refine lv_aload_n hx hb dJN_entryAt_0 rfl (lv_at hl 0 rfl) ?_
  refine va_get (D := (dC, dI)) (ci := 2) (v := .ref h1) (C := RJN) (T := TJN) (N := 3) hx hb hts inJN hown hK hP 0 rfl rfl 0 (by decide) (hts _ m_f_JN_9) (fun _ h9 => h9) rfl dJN_entryAt_1 ?_
  refine lv_aload_n hx hb dJN_entryAt_4 rfl (lv_at hl 0 rfl) ?_
  refine va_get (D := (dC, dI)) (ci := 2) (v := .int (nI q)) (C := RJN) (T := TJN) (N := 3) hx hb hts inJN hown hK hP 0 rfl rfl 2 (by decide) (hts _ m_f_JN_17) (fun _ h9 => h9) rfl dJN_entryAt_5 ?_
  refine lv_bipush (v := 64) hx hb dJN_entryAt_8 (by decide) ?_
  refine lv_iadd hx hb dJN_entryAt_10 ?_
  refine lv_aload_n hx hb dJN_entryAt_11 rfl (lv_at hl 0 rfl) ?_
  refine va_get (D := (dC, dI)) (ci := 2) (v := .int (nI z)) (C := RJN) (T := TJN) (N := 3) hx hb hts inJN hown hK hP 0 rfl rfl 1 (by decide) (hts _ m_f_JN_13) (fun _ h9 => h9) rfl dJN_entryAt_12 ?_
  refine lv_isub hx hb dJN_entryAt_15 ?_
  refine lv_iload_n hx hb dJN_entryAt_16 rfl (lv_at hl 1 rfl) ?_
  refine lv_iadd hx hb dJN_entryAt_17 ?_
  refine lv_bipush (v := 64) hx hb dJN_entryAt_18 (by decide) ?_
  refine lv_irem hx hb dJN_entryAt_20 (by decide) ?_
  refine k_topi (y := nI (f_ix q z j)) (f_ixe hq hz hj) ?_
  refine k_lld (v := rg (f_ix q z j)) hx hb hK hP 1 1 rfl rfl (j := (f_ix q z j)) rfl (f_ix_lt q z j) (by decide) rfl dJN_entryAt_21 ?_
  exact k_lret hx hb hr hlocks hP hK hD hS rfl dJN_entryAt_22 ⟨Nat.le_of_ble_eq_true rfl, Nat.le_of_ble_eq_true rfl⟩

abbrev rm_JN_isLike : Room := { frames := 1, cells := 0, slots := 0, locals := 21 }
set_option maxHeartbeats 4000000 in
set_option maxRecDepth 100000 in
theorem k_JN_isLike (l : Launch) (dC : Nat → ClassId) (dI : Nat → Nat → Nat) (cI cJ cG cZ : ClassId) (h0 : Nat) (h1 : Nat) (rg : Nat → Int64) (z : Nat) (q : Nat) (g0 : Nat) (g1 : Nat) (rg2 : Nat → Int64) (z2 : Nat) (q2 : Nat) (hz : z ≤ 64) (hq : q < 64) (hz2 : z2 ≤ 64) (hq2 : q2 < 64) : k_M l yJN_isLike wsJN_isLike rm_JN_isLike (dC, dI) vwCl [(cI, .int), (cJ, .long), (cG, .array .long), (cZ, .boolean)] [.ref h0, .ref g0] [(h0, .inr (2, [.ref h1, .int (nI z), .int (nI q)])), (h1, .inl (cJ, 64, .inr (.inl rg))), (g0, .inr (2, [.ref g1, .int (nI z2), .int (nI q2)])), (g1, .inl (cJ, 64, .inr (.inl rg2)))] (some (.int (if z = z2 ∧ ∀ j : Nat, j < z → rg (f_ix q z j) = rg2 (f_ix q2 z2 j) then 1 else 0))) [(h0, .inr (2, [.ref h1, .int (nI z), .int (nI q)])), (h1, .inl (cJ, 64, .inr (.inl rg))), (g0, .inr (2, [.ref g1, .int (nI z2), .int (nI q2)])), (g1, .inl (cJ, 64, .inr (.inl rg2)))] := by
  refine k_of (cc := cJN_isLike) (maxL := 3) (ret := (some .boolean)) (by decide) rfl (Nat.le_of_ble_eq_true rfl) ?_
  intro p e s m below meth c A ls hx hb hr hlocks hml hown hts hA hP hD hK hF hl hS
  have hown : s.vm.findClass RJN = some m.cls := hown
  have hl : lv_has ls 3 [(0, .ref h0), (1, .ref g0)] := hl
  refine lv_aload_n hx hb dJN_isLike_0 rfl (lv_at hl 0 rfl) ?_
  refine va_get (D := (dC, dI)) (ci := 2) (v := .int (nI z)) (C := RJN) (T := TJN) (N := 3) hx hb hts inJN hown hK hP 0 rfl rfl 1 (by decide) (hts _ m_f_JN_13) (fun _ h9 => h9) rfl dJN_isLike_1 ?_
  refine lv_aload_n hx hb dJN_isLike_4 rfl (lv_at hl 1 rfl) ?_
  refine va_get (D := (dC, dI)) (ci := 2) (v := .int (nI z2)) (C := RJN) (T := TJN) (N := 3) hx hb hts inJN hown hK hP 2 rfl rfl 1 (by decide) (hts _ m_f_JN_13) (fun _ h9 => h9) rfl dJN_isLike_5 ?_
  refine lv_icmp_eq (tgt := 13) hx hb dJN_isLike_8 (by decide) (fun c_1 => ?_) (fun c_1 => ?_)
  · refine lv_iconst (v := 0) hx hb dJN_isLike_13 (by decide) ?_
    refine lv_istore_n (lv' := [(2, .int 0), (0, .ref h0), (1, .ref g0)]) hx hb dJN_isLike_14 rfl hl (by decide) rfl (fun ls hl => ?_)
    have hl : lv_has ls 3 [(2, .int (nI 0)), (0, .ref h0), (1, .ref g0)] := hl
    have hzz : z = z2 := (nI_eq (by omega) (by omega)).mp c_1
    have lp : ∀ (n i : Nat), z < i + n → i ≤ z → (∀ j : Nat, j < i → rg (f_ix q z j) = rg2 (f_ix q2 z2 j)) → ∀ (H : Heap) (locs : List Loc), va_P (dC, dI) vwCl [(h0, .inr (2, [.ref h1, .int (nI z), .int (nI q)])), (h1, .inl (cJ, 64, .inr (.inl rg))), (g0, .inr (2, [.ref g1, .int (nI z2), .int (nI q2)])), (g1, .inl (cJ, 64, .inr (.inl rg2)))] H → va_D A [(h0, .inr (2, [.ref h1, .int (nI z), .int (nI q)])), (h1, .inl (cJ, 64, .inr (.inl rg))), (g0, .inr (2, [.ref g1, .int (nI z2), .int (nI q2)])), (g1, .inl (cJ, 64, .inr (.inl rg2)))] → va_S A s.heap H locs → ∀ (ls : Array Slot), lv_has ls 3 [(2, .int (nI i)), (0, .ref h0), (1, .ref g0)] → W p l e rm_JN_isLike s m ([.ref h0, .ref g0] : List Value).toArray below meth c H locs 0 0 (MQ below (k_Q (dC, dI) vwCl [(cI, .int), (cJ, .long), (cG, .array .long), (cZ, .boolean)] (some (.int (if z = z2 ∧ ∀ j : Nat, j < z → rg (f_ix q z j) = rg2 (f_ix q2 z2 j) then 1 else 0))) [(h0, .inr (2, [.ref h1, .int (nI z), .int (nI q)])), (h1, .inl (cJ, 64, .inr (.inl rg))), (g0, .inr (2, [.ref g1, .int (nI z2), .int (nI q2)])), (g1, .inl (cJ, 64, .inr (.inl rg2)))] A) ([.ref h0, .ref g0] : List Value).toArray s rm_JN_isLike.cells rm_JN_isLike.slots A) (F0 m 15 ls []) := by
      intro n
      induction n with
      | zero => intro i h8 h9; exact absurd h8 (by omega)
      | succ n ih =>
        intro i hn hle hinv H locs hP hD hS ls hl
        refine lv_iload_n hx hb dJN_isLike_15 rfl (lv_at hl 0 rfl) ?_
        refine lv_aload_n hx hb dJN_isLike_16 rfl (lv_at hl 1 rfl) ?_
        refine va_get (D := (dC, dI)) (ci := 2) (v := .int (nI z)) (C := RJN) (T := TJN) (N := 3) hx hb hts inJN hown hK hP 0 rfl rfl 1 (by decide) (hts _ m_f_JN_13) (fun _ h9 => h9) rfl dJN_isLike_17 ?_
        refine lv_icmp_ge (tgt := 45) hx hb dJN_isLike_20 (by decide) (fun c_2 => ?_) (fun c_2 => ?_)
        · refine lv_iconst (v := 1) hx hb dJN_isLike_45 (by decide) ?_
          exact k_zret hx hb hr hlocks rfl hP hK hD hS (if_pos ⟨hzz, fun j hj => hinv j (by have h9 := (nI_leI (by omega) (by omega)).mp c_2; omega)⟩).symm dJN_isLike_46 ⟨Nat.le_of_ble_eq_true rfl, Nat.le_of_ble_eq_true rfl⟩
        · have hlt : i < z := by rcases Nat.lt_or_ge i z with q9 | q9; exact q9; exact absurd (nI_le q9 (by omega)) c_2
          refine lv_aload_n hx hb dJN_isLike_23 rfl (lv_at hl 1 rfl) ?_
          refine lv_iload_n hx hb dJN_isLike_24 rfl (lv_at hl 0 rfl) ?_
          refine k_V (wr := [(g0, .inr (2, [.ref g1, .int (nI z2), .int (nI q2)])), (g1, .inl (cJ, 64, .inr (.inl rg2)))]) (W1 := [(h0, .inr (2, [.ref h1, .int (nI z), .int (nI q)])), (h1, .inl (cJ, 64, .inr (.inl rg))), (g0, .inr (2, [.ref g1, .int (nI z2), .int (nI q2)])), (g1, .inl (cJ, 64, .inr (.inl rg2)))]) (st1 := [.long (rg (f_ix q z i))]) ⟨hx, hb, hml, hown, hts⟩ (k_JN_entryAt l dC dI cI cJ cG cZ h0 h1 rg z q i hz hq (by omega)) (cwV 1 hts (k_gV m_l_JN_20 m_i_JN_entryAt m_s_JN_entryAt m_in_JN m_c_JN_entryAt) rfl rfl rfl (by decide +kernel) ⟨Nat.le_of_ble_eq_true rfl, Nat.le_of_ble_eq_true rfl⟩) hK hF hP hD hS hA [0, 1] [2, 3] [2, 3, 0, 1] rfl rfl (by decide) (by decide) (by decide) rfl (by decide) rfl rfl rfl rfl hl.1 rfl (Nat.le_of_ble_eq_true rfl) dJN_isLike_25 ⟨Nat.le_of_ble_eq_true rfl, Nat.le_of_ble_eq_true rfl⟩ rfl (fun H locs hP hD hS => ?_)
          refine lv_aload_n hx hb dJN_isLike_28 rfl (lv_at hl 2 rfl) ?_
          refine lv_iload_n hx hb dJN_isLike_29 rfl (lv_at hl 0 rfl) ?_
          refine k_V (wr := [(h0, .inr (2, [.ref h1, .int (nI z), .int (nI q)])), (h1, .inl (cJ, 64, .inr (.inl rg)))]) (W1 := [(h0, .inr (2, [.ref h1, .int (nI z), .int (nI q)])), (h1, .inl (cJ, 64, .inr (.inl rg))), (g0, .inr (2, [.ref g1, .int (nI z2), .int (nI q2)])), (g1, .inl (cJ, 64, .inr (.inl rg2)))]) (st1 := [.long (rg2 (f_ix q2 z2 i)), .long (rg (f_ix q z i))]) ⟨hx, hb, hml, hown, hts⟩ (k_JN_entryAt l dC dI cI cJ cG cZ g0 g1 rg2 z2 q2 i hz2 hq2 (by omega)) (cwV 1 hts (k_gV m_l_JN_20 m_i_JN_entryAt m_s_JN_entryAt m_in_JN m_c_JN_entryAt) rfl rfl rfl (by decide +kernel) ⟨Nat.le_of_ble_eq_true rfl, Nat.le_of_ble_eq_true rfl⟩) hK hF hP hD hS hA [2, 3] [0, 1] [0, 1, 2, 3] rfl rfl (by decide) (by decide) (by decide) rfl (by decide) rfl rfl rfl rfl hl.1 rfl (Nat.le_of_ble_eq_true rfl) dJN_isLike_30 ⟨Nat.le_of_ble_eq_true rfl, Nat.le_of_ble_eq_true rfl⟩ rfl (fun H locs hP hD hS => ?_)
          refine W.lcmp hx hb dJN_isLike_33 ?_
          refine lv_if_eq (tgt := 39) hx hb dJN_isLike_34 (by decide) (fun c_3 => ?_) (fun c_3 => ?_)
          · refine lv_iinc (v := nI (i + 1)) (lv' := [(2, .int (nI (i + 1))), (0, .ref h0), (1, .ref g0)]) hx hb dJN_isLike_39 hl (k := 0) rfl (nI_1 _) (by decide) rfl (fun ls hl => ?_)
            refine lv_goto (tgt := 15) hx hb dJN_isLike_42 (by decide) ?_
            exact ih (i + 1) (by omega) (by omega) (lt_s hinv (n_eq0.mp c_3)) _ _ hP hD hS ls (lv_sub hl [0, 1, 2] rfl)
          · refine lv_iconst (v := 0) hx hb dJN_isLike_37 (by decide) ?_
            exact k_zret hx hb hr hlocks rfl hP hK hD hS (if_neg (fun h9 => c_3 (n_eq0.mpr (h9.2 i hlt)))).symm dJN_isLike_38 ⟨Nat.le_of_ble_eq_true rfl, Nat.le_of_ble_eq_true rfl⟩
    exact lp (z + 1) 0 (by omega) (by omega) lt_0 _ _ hP hD hS ls hl
  · refine lv_iconst (v := 0) hx hb dJN_isLike_11 (by decide) ?_
    exact k_zret hx hb hr hlocks rfl hP hK hD hS (if_neg (fun h9 => c_1 (by rw [h9.1]))).symm dJN_isLike_12 ⟨Nat.le_of_ble_eq_true rfl, Nat.le_of_ble_eq_true rfl⟩
end
section
abbrev rm_NU_isLike : Room := { frames := 0, cells := 0, slots := 0, locals := 0 }
set_option maxHeartbeats 4000000 in
set_option maxRecDepth 100000 in
theorem k_NU_isLike (l : Launch) (dC : Nat → ClassId) (dI : Nat → Nat → Nat) (cI cJ cG cZ : ClassId) (h0 : Nat) (h1 : Nat) (h2 : Nat) (md : Nat → Int32) (kn : Nat → Int64) (g0 : Nat) (g1 : Nat) (g2 : Nat) (md2 : Nat → Int32) (kn2 : Nat → Int64) : k_M l yNU_isLike wsNU_isLike rm_NU_isLike (dC, dI) vwCl [(cI, .int), (cJ, .long), (cG, .array .long), (cZ, .boolean)] [.ref h0, .ref g0] [(h0, .inr (3, [.ref h1, .ref h2])), (h1, .inl (cI, 8, .inl md)), (h2, .inl (cJ, 8, .inr (.inl kn))), (g0, .inr (3, [.ref g1, .ref g2])), (g1, .inl (cI, 8, .inl md2)), (g2, .inl (cJ, 8, .inr (.inl kn2)))] (some (.int (if ∀ j : Nat, j < 8 → md j = md2 j ∧ kn j = kn2 j then 1 else 0))) [(h0, .inr (3, [.ref h1, .ref h2])), (h1, .inl (cI, 8, .inl md)), (h2, .inl (cJ, 8, .inr (.inl kn))), (g0, .inr (3, [.ref g1, .ref g2])), (g1, .inl (cI, 8, .inl md2)), (g2, .inl (cJ, 8, .inr (.inl kn2)))] := by
  refine k_of (cc := cNU_isLike) (maxL := 3) (ret := (some .boolean)) (by decide) rfl (Nat.le_of_ble_eq_true rfl) ?_
  intro p e s m below meth c A ls hx hb hr hlocks hml hown hts hA hP hD hK hF hl hS
  have hown : s.vm.findClass RNU = some m.cls := hown
  have hl : lv_has ls 3 [(0, .ref h0), (1, .ref g0)] := hl
  refine lv_iconst (v := 0) hx hb dNU_isLike_0 (by decide) ?_
  refine lv_istore_n (lv' := [(2, .int 0), (0, .ref h0), (1, .ref g0)]) hx hb dNU_isLike_1 rfl hl (by decide) rfl (fun ls hl => ?_)
  have hl : lv_has ls 3 [(2, .int (nI 0)), (0, .ref h0), (1, .ref g0)] := hl
  have lp : ∀ (n i : Nat), 8 < i + n → i ≤ 8 → (∀ j : Nat, j < i → md j = md2 j ∧ kn j = kn2 j) → ∀ (H : Heap) (locs : List Loc), va_P (dC, dI) vwCl [(h0, .inr (3, [.ref h1, .ref h2])), (h1, .inl (cI, 8, .inl md)), (h2, .inl (cJ, 8, .inr (.inl kn))), (g0, .inr (3, [.ref g1, .ref g2])), (g1, .inl (cI, 8, .inl md2)), (g2, .inl (cJ, 8, .inr (.inl kn2)))] H → va_D A [(h0, .inr (3, [.ref h1, .ref h2])), (h1, .inl (cI, 8, .inl md)), (h2, .inl (cJ, 8, .inr (.inl kn))), (g0, .inr (3, [.ref g1, .ref g2])), (g1, .inl (cI, 8, .inl md2)), (g2, .inl (cJ, 8, .inr (.inl kn2)))] → va_S A s.heap H locs → ∀ (ls : Array Slot), lv_has ls 3 [(2, .int (nI i)), (0, .ref h0), (1, .ref g0)] → W p l e rm_NU_isLike s m ([.ref h0, .ref g0] : List Value).toArray below meth c H locs 0 0 (MQ below (k_Q (dC, dI) vwCl [(cI, .int), (cJ, .long), (cG, .array .long), (cZ, .boolean)] (some (.int (if ∀ j : Nat, j < 8 → md j = md2 j ∧ kn j = kn2 j then 1 else 0))) [(h0, .inr (3, [.ref h1, .ref h2])), (h1, .inl (cI, 8, .inl md)), (h2, .inl (cJ, 8, .inr (.inl kn))), (g0, .inr (3, [.ref g1, .ref g2])), (g1, .inl (cI, 8, .inl md2)), (g2, .inl (cJ, 8, .inr (.inl kn2)))] A) ([.ref h0, .ref g0] : List Value).toArray s rm_NU_isLike.cells rm_NU_isLike.slots A) (F0 m 2 ls []) := by
    intro n
    induction n with
    | zero => intro i h8 h9; exact absurd h8 (by omega)
    | succ n ih =>
      intro i hn hle hinv H locs hP hD hS ls hl
      refine lv_iload_n hx hb dNU_isLike_2 rfl (lv_at hl 0 rfl) ?_
      refine lv_bipush (v := 8) hx hb dNU_isLike_3 (by decide) ?_
      refine lv_icmp_ge (tgt := 47) hx hb dNU_isLike_5 (by decide) (fun c_1 => ?_) (fun c_1 => ?_)
      · refine lv_iconst (v := 1) hx hb dNU_isLike_47 (by decide) ?_
        exact k_zret hx hb hr hlocks rfl hP hK hD hS (if_pos (fun j hj => hinv j (by have h9 := (n_le (n := 8) rfl (by decide) (by omega)).mp c_1; omega))).symm dNU_isLike_48 ⟨Nat.le_of_ble_eq_true rfl, Nat.le_of_ble_eq_true rfl⟩
      · have hlt : i < 8 := by rcases Nat.lt_or_ge i 8 with q9 | q9; exact q9; exact absurd ((n_le rfl (by decide) (by omega)).mpr q9) c_1
        refine lv_aload_n hx hb dNU_isLike_8 rfl (lv_at hl 1 rfl) ?_
        refine va_get (D := (dC, dI)) (ci := 3) (v := .ref h1) (C := RNU) (T := TNU) (N := 2) hx hb hts inNU hown hK hP 0 rfl rfl 0 (by decide) (hts _ m_f_NU_9) (fun _ h9 => h9) rfl dNU_isLike_9 ?_
        refine lv_iload_n hx hb dNU_isLike_12 rfl (lv_at hl 0 rfl) ?_
        refine k_ild (v := md i) hx hb hK hP 1 0 rfl rfl (j := i) rfl hlt (by decide) rfl dNU_isLike_13 ?_
        refine lv_aload_n hx hb dNU_isLike_14 rfl (lv_at hl 2 rfl) ?_
        refine va_get (D := (dC, dI)) (ci := 3) (v := .ref g1) (C := RNU) (T := TNU) (N := 2) hx hb hts inNU hown hK hP 3 rfl rfl 0 (by decide) (hts _ m_f_NU_9) (fun _ h9 => h9) rfl dNU_isLike_15 ?_
        refine lv_iload_n hx hb dNU_isLike_18 rfl (lv_at hl 0 rfl) ?_
        refine k_ild (v := md2 i) hx hb hK hP 4 0 rfl rfl (j := i) rfl hlt (by decide) rfl dNU_isLike_19 ?_
        refine lv_icmp_ne (tgt := 39) hx hb dNU_isLike_20 (by decide) (fun c_2 => ?_) (fun c_2 => ?_)
        · refine lv_iconst (v := 0) hx hb dNU_isLike_39 (by decide) ?_
          exact k_zret hx hb hr hlocks rfl hP hK hD hS (if_neg (fun h9 => c_2 (h9 i hlt).1)).symm dNU_isLike_40 ⟨Nat.le_of_ble_eq_true rfl, Nat.le_of_ble_eq_true rfl⟩
        · refine lv_aload_n hx hb dNU_isLike_23 rfl (lv_at hl 1 rfl) ?_
          refine va_get (D := (dC, dI)) (ci := 3) (v := .ref h2) (C := RNU) (T := TNU) (N := 2) hx hb hts inNU hown hK hP 0 rfl rfl 1 (by decide) (hts _ m_f_NU_15) (fun _ h9 => h9) rfl dNU_isLike_24 ?_
          refine lv_iload_n hx hb dNU_isLike_27 rfl (lv_at hl 0 rfl) ?_
          refine k_lld (v := kn i) hx hb hK hP 2 1 rfl rfl (j := i) rfl hlt (by decide) rfl dNU_isLike_28 ?_
          refine lv_aload_n hx hb dNU_isLike_29 rfl (lv_at hl 2 rfl) ?_
          refine va_get (D := (dC, dI)) (ci := 3) (v := .ref g2) (C := RNU) (T := TNU) (N := 2) hx hb hts inNU hown hK hP 3 rfl rfl 1 (by decide) (hts _ m_f_NU_15) (fun _ h9 => h9) rfl dNU_isLike_30 ?_
          refine lv_iload_n hx hb dNU_isLike_33 rfl (lv_at hl 0 rfl) ?_
          refine k_lld (v := kn2 i) hx hb hK hP 5 1 rfl rfl (j := i) rfl hlt (by decide) rfl dNU_isLike_34 ?_
          refine W.lcmp hx hb dNU_isLike_35 ?_
          refine lv_if_eq (tgt := 41) hx hb dNU_isLike_36 (by decide) (fun c_3 => ?_) (fun c_3 => ?_)
          · refine lv_iinc (v := nI (i + 1)) (lv' := [(2, .int (nI (i + 1))), (0, .ref h0), (1, .ref g0)]) hx hb dNU_isLike_41 hl (k := 0) rfl (nI_1 _) (by decide) rfl (fun ls hl => ?_)
            refine lv_goto (tgt := 2) hx hb dNU_isLike_44 (by decide) ?_
            exact ih (i + 1) (by omega) (by omega) (lt_s hinv ⟨c_2, n_eq0.mp c_3⟩) _ _ hP hD hS ls (lv_sub hl [0, 1, 2] rfl)
          · refine lv_iconst (v := 0) hx hb dNU_isLike_39 (by decide) ?_
            exact k_zret hx hb hr hlocks rfl hP hK hD hS (if_neg (fun h9 => c_3 (n_eq0.mpr (h9 i hlt).2))).symm dNU_isLike_40 ⟨Nat.le_of_ble_eq_true rfl, Nat.le_of_ble_eq_true rfl⟩
  exact lp (8 + 1) 0 (by omega) (by omega) lt_0 _ _ hP hD hS ls hl

abbrev rm_NU_knownAt : Room := { frames := 2, cells := 0, slots := 0, locals := 44 }
set_option maxHeartbeats 4000000 in
set_option maxRecDepth 100000 in
theorem k_NU_knownAt (l : Launch) (dC : Nat → ClassId) (dI : Nat → Nat → Nat) (cI cJ cG cZ : ClassId) (h0 : Nat) (h1 : Nat) (h2 : Nat) (md : Nat → Int32) (kn : Nat → Int64) (k : Nat) (M : Nat) (i : Int32) (hk : k < 8) (hM : md k = nI M) (hM4 : M ≤ 40) : k_M l yNU_knownAt wsNU_knownAt rm_NU_knownAt (dC, dI) vwCl [(cI, .int), (cJ, .long), (cG, .array .long), (cZ, .boolean)] [.ref h0, .int (nI k), .int i] [(h0, .inr (3, [.ref h1, .ref h2])), (h1, .inl (cI, 8, .inl md)), (h2, .inl (cJ, 8, .inr (.inl kn)))] (some (.int (f_find (f_P md kn k) i M 1 0))) [(h0, .inr (3, [.ref h1, .ref h2])), (h1, .inl (cI, 8, .inl md)), (h2, .inl (cJ, 8, .inr (.inl kn)))] := by
  refine k_of (cc := cNU_knownAt) (maxL := 5) (ret := (some .int)) (by decide) rfl (Nat.le_of_ble_eq_true rfl) ?_
  intro p e s m below meth c A ls hx hb hr hlocks hml hown hts hA hP hD hK hF hl hS
  have hown : s.vm.findClass RNU = some m.cls := hown
  have hl : lv_has ls 5 [(0, .ref h0), (1, .int (nI k)), (2, .int i)] := hl
  refine lv_iconst (v := 0) hx hb dNU_knownAt_0 (by decide) ?_
  refine lv_istore_n (lv' := [(3, .int 0), (0, .ref h0), (1, .int (nI k)), (2, .int i)]) hx hb dNU_knownAt_1 rfl hl (by decide) rfl (fun ls hl => ?_)
  refine lv_iconst (v := 1) hx hb dNU_knownAt_2 (by decide) ?_
  refine lv_istore (lv' := [(4, .int 1), (3, .int 0), (0, .ref h0), (1, .int (nI k)), (2, .int i)]) hx hb dNU_knownAt_3 hl (by decide) rfl (fun ls hl => ?_)
  have hl : lv_has ls 5 [(4, .int (nI 1)), (3, .int (nI 0)), (0, .ref h0), (1, .int (nI k)), (2, .int i)] := hl
  have lp : ∀ (n a b : Nat), M + 1 < a + n → a ≤ M + 1 → (f_find (f_P md kn k) i M 1 0 = f_find (f_P md kn k) i (M + 1 - a) a b) → ∀ (H : Heap) (locs : List Loc), va_P (dC, dI) vwCl [(h0, .inr (3, [.ref h1, .ref h2])), (h1, .inl (cI, 8, .inl md)), (h2, .inl (cJ, 8, .inr (.inl kn)))] H → va_D A [(h0, .inr (3, [.ref h1, .ref h2])), (h1, .inl (cI, 8, .inl md)), (h2, .inl (cJ, 8, .inr (.inl kn)))] → va_S A s.heap H locs → ∀ (ls : Array Slot), lv_has ls 5 [(4, .int (nI a)), (3, .int (nI b)), (0, .ref h0), (1, .int (nI k)), (2, .int i)] → W p l e rm_NU_knownAt s m ([.ref h0, .int (nI k), .int i] : List Value).toArray below meth c H locs 0 0 (MQ below (k_Q (dC, dI) vwCl [(cI, .int), (cJ, .long), (cG, .array .long), (cZ, .boolean)] (some (.int (f_find (f_P md kn k) i M 1 0))) [(h0, .inr (3, [.ref h1, .ref h2])), (h1, .inl (cI, 8, .inl md)), (h2, .inl (cJ, 8, .inr (.inl kn)))] A) ([.ref h0, .int (nI k), .int i] : List Value).toArray s rm_NU_knownAt.cells rm_NU_knownAt.slots A) (F0 m 5 ls []) := by
    intro n
    induction n with
    | zero => intro a b h8 h9; exact absurd h8 (by omega)
    | succ n ih =>
      intro a b hn hle hinv H locs hP hD hS ls hl
      refine lv_iload hx hb dNU_knownAt_5 (lv_at hl 0 rfl) ?_
      refine lv_aload_n hx hb dNU_knownAt_7 rfl (lv_at hl 2 rfl) ?_
      refine va_get (D := (dC, dI)) (ci := 3) (v := .ref h1) (C := RNU) (T := TNU) (N := 2) hx hb hts inNU hown hK hP 0 rfl rfl 0 (by decide) (hts _ m_f_NU_9) (fun _ h9 => h9) rfl dNU_knownAt_8 ?_
      refine lv_iload_n hx hb dNU_knownAt_11 rfl (lv_at hl 3 rfl) ?_
      refine k_ild (v := md k) hx hb hK hP 1 0 rfl rfl (j := k) rfl hk (by decide) rfl dNU_knownAt_12 ?_
      refine lv_icmp_gt (tgt := 43) hx hb dNU_knownAt_13 (by decide) (fun c_1 => ?_) (fun c_1 => ?_)
      · refine lv_iconst (v := (-1)) hx hb dNU_knownAt_43 (by decide) ?_
        exact k_iret hx hb hr hlocks hP hK hD hS (hinv.trans (f_find0 (by have h9 : M < a := (nI_ltI (by omega) (by omega)).mp (by rw [← hM]; exact c_1); omega))).symm dNU_knownAt_44 ⟨Nat.le_of_ble_eq_true rfl, Nat.le_of_ble_eq_true rfl⟩
      · have hlt : a ≤ M := by rcases Nat.lt_or_ge M a with q9 | q9; exact absurd (by rw [hM]; exact nI_lt q9 (by omega)) c_1; exact q9
        refine lv_aload_n hx hb dNU_knownAt_16 rfl (lv_at hl 2 rfl) ?_
        refine lv_iload_n hx hb dNU_knownAt_17 rfl (lv_at hl 3 rfl) ?_
        refine lv_iload hx hb dNU_knownAt_18 (lv_at hl 0 rfl) ?_
        refine k_V (wr := []) (W1 := [(h0, .inr (3, [.ref h1, .ref h2])), (h1, .inl (cI, 8, .inl md)), (h2, .inl (cJ, 8, .inr (.inl kn)))]) (st1 := [.int (f_isKnown md kn k (nI a))]) ⟨hx, hb, hml, hown, hts⟩ (k_NU_isKnown l dC dI cI cJ cG cZ h0 h1 h2 md kn k (nI a) hk) (cwV 2 hts (k_gV m_l_NU_35 m_i_NU_isKnown m_s_NU_isKnown m_in_NU m_c_NU_isKnown) rfl rfl rfl (by decide +kernel) ⟨Nat.le_of_ble_eq_true rfl, Nat.le_of_ble_eq_true rfl⟩) hK hF hP hD hS hA [0, 1, 2] [] [0, 1, 2] rfl rfl (by decide) (by decide) (by decide) rfl (by decide) rfl rfl rfl rfl hl.1 rfl (Nat.le_of_ble_eq_true rfl) dNU_knownAt_20 ⟨Nat.le_of_ble_eq_true rfl, Nat.le_of_ble_eq_true rfl⟩ rfl (fun H locs hP hD hS => ?_)
        refine lv_if_eq (tgt := 37) hx hb dNU_knownAt_23 (by decide) (fun c_2 => ?_) (fun c_2 => ?_)
        · refine lv_iinc (v := nI (a + 1)) (lv' := [(4, .int (nI (a + 1))), (3, .int (nI b)), (0, .ref h0), (1, .int (nI k)), (2, .int i)]) hx hb dNU_knownAt_37 hl (k := 0) rfl (nI_1 _) (by decide) rfl (fun ls hl => ?_)
          refine lv_goto (tgt := 5) hx hb dNU_knownAt_40 (by decide) ?_
          exact ih (a + 1) b (by omega) (by omega) (hinv.trans (f_findN (g := M + 1 - (a + 1)) (by omega) (by unfold f_P; simp [c_2]))) _ _ hP hD hS ls (lv_sub hl [0, 1, 2, 3, 4] rfl)
        · refine lv_iload_n hx hb dNU_knownAt_26 rfl (lv_at hl 1 rfl) ?_
          refine lv_iload_n hx hb dNU_knownAt_27 rfl (lv_at hl 4 rfl) ?_
          refine lv_icmp_ne (tgt := 34) hx hb dNU_knownAt_28 (by decide) (fun c_3 => ?_) (fun c_3 => ?_)
          · refine lv_iinc (v := nI (b + 1)) (lv' := [(3, .int (nI (b + 1))), (4, .int (nI a)), (0, .ref h0), (1, .int (nI k)), (2, .int i)]) hx hb dNU_knownAt_34 hl (k := 1) rfl (nI_1 _) (by decide) rfl (fun ls hl => ?_)
            refine lv_iinc (v := nI (a + 1)) (lv' := [(4, .int (nI (a + 1))), (3, .int (nI (b + 1))), (0, .ref h0), (1, .int (nI k)), (2, .int i)]) hx hb dNU_knownAt_37 hl (k := 1) rfl (nI_1 _) (by decide) rfl (fun ls hl => ?_)
            refine lv_goto (tgt := 5) hx hb dNU_knownAt_40 (by decide) ?_
            exact ih (a + 1) (b + 1) (by omega) (by omega) (hinv.trans (f_findG (g := M + 1 - (a + 1)) (by omega) (by unfold f_P; simp [c_2]) c_3)) _ _ hP hD hS ls (lv_sub hl [0, 1, 2, 3, 4] rfl)
          · refine lv_iload hx hb dNU_knownAt_31 (lv_at hl 0 rfl) ?_
            exact k_iret hx hb hr hlocks hP hK hD hS (hinv.trans (f_findY (g := M + 1 - (a + 1)) (by omega) (by unfold f_P; simp [c_2]) c_3)).symm dNU_knownAt_33 ⟨Nat.le_of_ble_eq_true rfl, Nat.le_of_ble_eq_true rfl⟩
  exact lp (M + 1 + 1) 1 0 (by omega) (by omega) rfl _ _ hP hD hS ls hl

abbrev rm_PT_hasSumsOf : Room := { frames := 0, cells := 0, slots := 0, locals := 0 }
set_option maxHeartbeats 4000000 in
set_option maxRecDepth 100000 in
theorem k_PT_hasSumsOf (l : Launch) (dC : Nat → ClassId) (dI : Nat → Nat → Nat) (cI cJ cG cZ : ClassId) (h0 : Nat) (h1 : Nat) (h2 : Nat) (h3 : Nat) (an : Nat → Int64) (sm : Nat → Int64) (fl : Nat → Int32) (g0 : Nat) (g1 : Nat) (g2 : Nat) (g3 : Nat) (xan : Nat → Int64) (xsm : Nat → Int64) (xfl : Nat → Int32) : k_M l yPT_hasSumsOf wsPT_hasSumsOf rm_PT_hasSumsOf (dC, dI) vwCl [(cI, .int), (cJ, .long), (cG, .array .long), (cZ, .boolean)] [.ref h0, .ref g0] [(h0, .inr (4, [.ref h1, .ref h2, .ref h3])), (h1, .inl (cJ, 12, .inr (.inl an))), (h2, .inl (cJ, 12, .inr (.inl sm))), (h3, .inl (cI, 12, .inl fl)), (g0, .inr (4, [.ref g1, .ref g2, .ref g3])), (g1, .inl (cJ, 12, .inr (.inl xan))), (g2, .inl (cJ, 12, .inr (.inl xsm))), (g3, .inl (cI, 12, .inl xfl))] (some (.int (if ∀ j : Nat, j < 12 → sm j = xsm j then 1 else 0))) [(h0, .inr (4, [.ref h1, .ref h2, .ref h3])), (h1, .inl (cJ, 12, .inr (.inl an))), (h2, .inl (cJ, 12, .inr (.inl sm))), (h3, .inl (cI, 12, .inl fl)), (g0, .inr (4, [.ref g1, .ref g2, .ref g3])), (g1, .inl (cJ, 12, .inr (.inl xan))), (g2, .inl (cJ, 12, .inr (.inl xsm))), (g3, .inl (cI, 12, .inl xfl))] := by
  refine k_of (cc := cPT_hasSumsOf) (maxL := 3) (ret := (some .boolean)) (by decide) rfl (Nat.le_of_ble_eq_true rfl) ?_
  intro p e s m below meth c A ls hx hb hr hlocks hml hown hts hA hP hD hK hF hl hS
  have hown : s.vm.findClass RPT = some m.cls := hown
  have hl : lv_has ls 3 [(0, .ref h0), (1, .ref g0)] := hl
  refine lv_iconst (v := 0) hx hb dPT_hasSumsOf_0 (by decide) ?_
  refine lv_istore_n (lv' := [(2, .int 0), (0, .ref h0), (1, .ref g0)]) hx hb dPT_hasSumsOf_1 rfl hl (by decide) rfl (fun ls hl => ?_)
  have hl : lv_has ls 3 [(2, .int (nI 0)), (0, .ref h0), (1, .ref g0)] := hl
  have lp : ∀ (n i : Nat), 12 < i + n → i ≤ 12 → (∀ j : Nat, j < i → sm j = xsm j) → ∀ (H : Heap) (locs : List Loc), va_P (dC, dI) vwCl [(h0, .inr (4, [.ref h1, .ref h2, .ref h3])), (h1, .inl (cJ, 12, .inr (.inl an))), (h2, .inl (cJ, 12, .inr (.inl sm))), (h3, .inl (cI, 12, .inl fl)), (g0, .inr (4, [.ref g1, .ref g2, .ref g3])), (g1, .inl (cJ, 12, .inr (.inl xan))), (g2, .inl (cJ, 12, .inr (.inl xsm))), (g3, .inl (cI, 12, .inl xfl))] H → va_D A [(h0, .inr (4, [.ref h1, .ref h2, .ref h3])), (h1, .inl (cJ, 12, .inr (.inl an))), (h2, .inl (cJ, 12, .inr (.inl sm))), (h3, .inl (cI, 12, .inl fl)), (g0, .inr (4, [.ref g1, .ref g2, .ref g3])), (g1, .inl (cJ, 12, .inr (.inl xan))), (g2, .inl (cJ, 12, .inr (.inl xsm))), (g3, .inl (cI, 12, .inl xfl))] → va_S A s.heap H locs → ∀ (ls : Array Slot), lv_has ls 3 [(2, .int (nI i)), (0, .ref h0), (1, .ref g0)] → W p l e rm_PT_hasSumsOf s m ([.ref h0, .ref g0] : List Value).toArray below meth c H locs 0 0 (MQ below (k_Q (dC, dI) vwCl [(cI, .int), (cJ, .long), (cG, .array .long), (cZ, .boolean)] (some (.int (if ∀ j : Nat, j < 12 → sm j = xsm j then 1 else 0))) [(h0, .inr (4, [.ref h1, .ref h2, .ref h3])), (h1, .inl (cJ, 12, .inr (.inl an))), (h2, .inl (cJ, 12, .inr (.inl sm))), (h3, .inl (cI, 12, .inl fl)), (g0, .inr (4, [.ref g1, .ref g2, .ref g3])), (g1, .inl (cJ, 12, .inr (.inl xan))), (g2, .inl (cJ, 12, .inr (.inl xsm))), (g3, .inl (cI, 12, .inl xfl))] A) ([.ref h0, .ref g0] : List Value).toArray s rm_PT_hasSumsOf.cells rm_PT_hasSumsOf.slots A) (F0 m 2 ls []) := by
    intro n
    induction n with
    | zero => intro i h8 h9; exact absurd h8 (by omega)
    | succ n ih =>
      intro i hn hle hinv H locs hP hD hS ls hl
      refine lv_iload_n hx hb dPT_hasSumsOf_2 rfl (lv_at hl 0 rfl) ?_
      refine lv_bipush (v := 12) hx hb dPT_hasSumsOf_3 (by decide) ?_
      refine lv_icmp_ge (tgt := 32) hx hb dPT_hasSumsOf_5 (by decide) (fun c_1 => ?_) (fun c_1 => ?_)
      · refine lv_iconst (v := 1) hx hb dPT_hasSumsOf_32 (by decide) ?_
        exact k_zret hx hb hr hlocks rfl hP hK hD hS (if_pos (fun j hj => hinv j (by have h9 := (n_le (n := 12) rfl (by decide) (by omega)).mp c_1; omega))).symm dPT_hasSumsOf_33 ⟨Nat.le_of_ble_eq_true rfl, Nat.le_of_ble_eq_true rfl⟩
      · have hlt : i < 12 := by rcases Nat.lt_or_ge i 12 with q9 | q9; exact q9; exact absurd ((n_le rfl (by decide) (by omega)).mpr q9) c_1
        refine lv_aload_n hx hb dPT_hasSumsOf_8 rfl (lv_at hl 1 rfl) ?_
        refine va_get (D := (dC, dI)) (ci := 4) (v := .ref h2) (C := RPT) (T := TPT) (N := 3) hx hb hts inPT hown hK hP 0 rfl rfl 1 (by decide) (hts _ m_f_PT_15) (fun _ h9 => h9) rfl dPT_hasSumsOf_9 ?_
        refine lv_iload_n hx hb dPT_hasSumsOf_12 rfl (lv_at hl 0 rfl) ?_
        refine k_lld (v := sm i) hx hb hK hP 2 1 rfl rfl (j := i) rfl hlt (by decide) rfl dPT_hasSumsOf_13 ?_
        refine lv_aload_n hx hb dPT_hasSumsOf_14 rfl (lv_at hl 2 rfl) ?_
        refine va_get (D := (dC, dI)) (ci := 4) (v := .ref g2) (C := RPT) (T := TPT) (N := 3) hx hb hts inPT hown hK hP 4 rfl rfl 1 (by decide) (hts _ m_f_PT_15) (fun _ h9 => h9) rfl dPT_hasSumsOf_15 ?_
        refine lv_iload_n hx hb dPT_hasSumsOf_18 rfl (lv_at hl 0 rfl) ?_
        refine k_lld (v := xsm i) hx hb hK hP 6 1 rfl rfl (j := i) rfl hlt (by decide) rfl dPT_hasSumsOf_19 ?_
        refine W.lcmp hx hb dPT_hasSumsOf_20 ?_
        refine lv_if_eq (tgt := 26) hx hb dPT_hasSumsOf_21 (by decide) (fun c_2 => ?_) (fun c_2 => ?_)
        · refine lv_iinc (v := nI (i + 1)) (lv' := [(2, .int (nI (i + 1))), (0, .ref h0), (1, .ref g0)]) hx hb dPT_hasSumsOf_26 hl (k := 0) rfl (nI_1 _) (by decide) rfl (fun ls hl => ?_)
          refine lv_goto (tgt := 2) hx hb dPT_hasSumsOf_29 (by decide) ?_
          exact ih (i + 1) (by omega) (by omega) (lt_s hinv (n_eq0.mp c_2)) _ _ hP hD hS ls (lv_sub hl [0, 1, 2] rfl)
        · refine lv_iconst (v := 0) hx hb dPT_hasSumsOf_24 (by decide) ?_
          exact k_zret hx hb hr hlocks rfl hP hK hD hS (if_neg (fun h9 => c_2 (n_eq0.mpr (h9 i hlt)))).symm dPT_hasSumsOf_25 ⟨Nat.le_of_ble_eq_true rfl, Nat.le_of_ble_eq_true rfl⟩
  exact lp (12 + 1) 0 (by omega) (by omega) lt_0 _ _ hP hD hS ls hl

abbrev rm_TL_isLike : Room := { frames := 0, cells := 0, slots := 0, locals := 0 }
set_option maxHeartbeats 4000000 in
set_option maxRecDepth 100000 in
theorem k_TL_isLike (l : Launch) (dC : Nat → ClassId) (dI : Nat → Nat → Nat) (cI cJ cG cZ : ClassId) (h0 : Nat) (h1 : Nat) (tf : Nat → Int64) (g0 : Nat) (g1 : Nat) (xtf : Nat → Int64) : k_M l yTL_isLike wsTL_isLike rm_TL_isLike (dC, dI) vwCl [(cI, .int), (cJ, .long), (cG, .array .long), (cZ, .boolean)] [.ref h0, .ref g0] [(h0, .inr (5, [.ref h1])), (h1, .inl (cJ, 8, .inr (.inl tf))), (g0, .inr (5, [.ref g1])), (g1, .inl (cJ, 8, .inr (.inl xtf)))] (some (.int (if ∀ j : Nat, j < 8 → tf j = xtf j then 1 else 0))) [(h0, .inr (5, [.ref h1])), (h1, .inl (cJ, 8, .inr (.inl tf))), (g0, .inr (5, [.ref g1])), (g1, .inl (cJ, 8, .inr (.inl xtf)))] := by
  refine k_of (cc := cTL_isLike) (maxL := 3) (ret := (some .boolean)) (by decide) rfl (Nat.le_of_ble_eq_true rfl) ?_
  intro p e s m below meth c A ls hx hb hr hlocks hml hown hts hA hP hD hK hF hl hS
  have hown : s.vm.findClass RTL = some m.cls := hown
  have hl : lv_has ls 3 [(0, .ref h0), (1, .ref g0)] := hl
  refine lv_iconst (v := 0) hx hb dTL_isLike_0 (by decide) ?_
  refine lv_istore_n (lv' := [(2, .int 0), (0, .ref h0), (1, .ref g0)]) hx hb dTL_isLike_1 rfl hl (by decide) rfl (fun ls hl => ?_)
  have hl : lv_has ls 3 [(2, .int (nI 0)), (0, .ref h0), (1, .ref g0)] := hl
  have lp : ∀ (n i : Nat), 8 < i + n → i ≤ 8 → (∀ j : Nat, j < i → tf j = xtf j) → ∀ (H : Heap) (locs : List Loc), va_P (dC, dI) vwCl [(h0, .inr (5, [.ref h1])), (h1, .inl (cJ, 8, .inr (.inl tf))), (g0, .inr (5, [.ref g1])), (g1, .inl (cJ, 8, .inr (.inl xtf)))] H → va_D A [(h0, .inr (5, [.ref h1])), (h1, .inl (cJ, 8, .inr (.inl tf))), (g0, .inr (5, [.ref g1])), (g1, .inl (cJ, 8, .inr (.inl xtf)))] → va_S A s.heap H locs → ∀ (ls : Array Slot), lv_has ls 3 [(2, .int (nI i)), (0, .ref h0), (1, .ref g0)] → W p l e rm_TL_isLike s m ([.ref h0, .ref g0] : List Value).toArray below meth c H locs 0 0 (MQ below (k_Q (dC, dI) vwCl [(cI, .int), (cJ, .long), (cG, .array .long), (cZ, .boolean)] (some (.int (if ∀ j : Nat, j < 8 → tf j = xtf j then 1 else 0))) [(h0, .inr (5, [.ref h1])), (h1, .inl (cJ, 8, .inr (.inl tf))), (g0, .inr (5, [.ref g1])), (g1, .inl (cJ, 8, .inr (.inl xtf)))] A) ([.ref h0, .ref g0] : List Value).toArray s rm_TL_isLike.cells rm_TL_isLike.slots A) (F0 m 2 ls []) := by
    intro n
    induction n with
    | zero => intro i h8 h9; exact absurd h8 (by omega)
    | succ n ih =>
      intro i hn hle hinv H locs hP hD hS ls hl
      refine lv_iload_n hx hb dTL_isLike_2 rfl (lv_at hl 0 rfl) ?_
      refine lv_bipush (v := 8) hx hb dTL_isLike_3 (by decide) ?_
      refine lv_icmp_ge (tgt := 32) hx hb dTL_isLike_5 (by decide) (fun c_1 => ?_) (fun c_1 => ?_)
      · refine lv_iconst (v := 1) hx hb dTL_isLike_32 (by decide) ?_
        exact k_zret hx hb hr hlocks rfl hP hK hD hS (if_pos (fun j hj => hinv j (by have h9 := (n_le (n := 8) rfl (by decide) (by omega)).mp c_1; omega))).symm dTL_isLike_33 ⟨Nat.le_of_ble_eq_true rfl, Nat.le_of_ble_eq_true rfl⟩
      · have hlt : i < 8 := by rcases Nat.lt_or_ge i 8 with q9 | q9; exact q9; exact absurd ((n_le rfl (by decide) (by omega)).mpr q9) c_1
        refine lv_aload_n hx hb dTL_isLike_8 rfl (lv_at hl 1 rfl) ?_
        refine va_get (D := (dC, dI)) (ci := 5) (v := .ref h1) (C := RTL) (T := TTL) (N := 1) hx hb hts inTL hown hK hP 0 rfl rfl 0 (by decide) (hts _ m_f_TL_9) (fun _ h9 => h9) rfl dTL_isLike_9 ?_
        refine lv_iload_n hx hb dTL_isLike_12 rfl (lv_at hl 0 rfl) ?_
        refine k_lld (v := tf i) hx hb hK hP 1 1 rfl rfl (j := i) rfl hlt (by decide) rfl dTL_isLike_13 ?_
        refine lv_aload_n hx hb dTL_isLike_14 rfl (lv_at hl 2 rfl) ?_
        refine va_get (D := (dC, dI)) (ci := 5) (v := .ref g1) (C := RTL) (T := TTL) (N := 1) hx hb hts inTL hown hK hP 2 rfl rfl 0 (by decide) (hts _ m_f_TL_9) (fun _ h9 => h9) rfl dTL_isLike_15 ?_
        refine lv_iload_n hx hb dTL_isLike_18 rfl (lv_at hl 0 rfl) ?_
        refine k_lld (v := xtf i) hx hb hK hP 3 1 rfl rfl (j := i) rfl hlt (by decide) rfl dTL_isLike_19 ?_
        refine W.lcmp hx hb dTL_isLike_20 ?_
        refine lv_if_eq (tgt := 26) hx hb dTL_isLike_21 (by decide) (fun c_2 => ?_) (fun c_2 => ?_)
        · refine lv_iinc (v := nI (i + 1)) (lv' := [(2, .int (nI (i + 1))), (0, .ref h0), (1, .ref g0)]) hx hb dTL_isLike_26 hl (k := 0) rfl (nI_1 _) (by decide) rfl (fun ls hl => ?_)
          refine lv_goto (tgt := 2) hx hb dTL_isLike_29 (by decide) ?_
          exact ih (i + 1) (by omega) (by omega) (lt_s hinv (n_eq0.mp c_2)) _ _ hP hD hS ls (lv_sub hl [0, 1, 2] rfl)
        · refine lv_iconst (v := 0) hx hb dTL_isLike_24 (by decide) ?_
          exact k_zret hx hb hr hlocks rfl hP hK hD hS (if_neg (fun h9 => c_2 (n_eq0.mpr (h9 i hlt)))).symm dTL_isLike_25 ⟨Nat.le_of_ble_eq_true rfl, Nat.le_of_ble_eq_true rfl⟩
  exact lp (8 + 1) 0 (by omega) (by omega) lt_0 _ _ hP hD hS ls hl
end
section
def f_rw (r : Nat → Nat) : Nat → Option Nat := fun i => if i < 4 then some (r i) else none
def f_up (v : Nat → Nat → Int64) (k n : Nat) (x : Int64) : Nat → Nat → Int64 := fun a => if a = k then vp_updL (v k) n x else v a
def f_cfull (sz : Nat → Int32) (k : Nat) : Int32 := if sz k < 100 then 0 else 1
def f_can0 (v : Int64) : Int32 := if lg_cmp v 32 < 0 then 0 else if 0 < lg_cmp v 126 then 0 else 1
def f_can1 (v : Int64) : Int32 := if lg_cmp v 0 < 0 then 0 else if 0 < lg_cmp v 255 then 0 else 1
def f_can3 (v : Int64) : Int32 := if lg_cmp v 0 < 0 then 0 else if 0 ≤ lg_cmp v 8 then 0 else 1
def f_can (k : Nat) (v : Int64) : Int32 := if k = 0 then f_can0 v else if k = 1 then f_can1 v else if k = 2 then 1 else f_can3 v
abbrev rm_CV_isFull : Room := { frames := 0, cells := 0, slots := 0, locals := 0 }
set_option maxHeartbeats 4000000 in
set_option maxRecDepth 100000 in
theorem k_CV_isFull (l : Launch) (dC : Nat → ClassId) (dI : Nat → Nat → Nat) (cI cJ cG cZ : ClassId) (h0 : Nat) (h1 : Nat) (h2 : Nat) (sz : Nat → Int32) (k : Nat) (hk : k < 4) : k_M l yCV_isFull wsCV_isFull rm_CV_isFull (dC, dI) vwCl [(cI, .int), (cJ, .long), (cG, .array .long), (cZ, .boolean)] [.ref h0, .int (nI k)] [(h0, .inr (0, [.ref h1, .ref h2])), (h1, .inl (cI, 4, .inl sz))] (some (.int (f_cfull sz k))) [(h0, .inr (0, [.ref h1, .ref h2])), (h1, .inl (cI, 4, .inl sz))] := by
  refine k_of (cc := cCV_isFull) (maxL := 2) (ret := (some .boolean)) (by decide) rfl (Nat.le_of_ble_eq_true rfl) ?_
  intro p e s m below meth c A ls hx hb hr hlocks hml hown hts hA hP hD hK hF hl hS
  have hown : s.vm.findClass RCV = some m.cls := hown
  have hl : lv_has ls 2 [(0, .ref h0), (1, .int (nI k))] := hl
  refine lv_aload_n hx hb dCV_isFull_0 rfl (lv_at hl 0 rfl) ?_
  refine va_get (D := (dC, dI)) (ci := 0) (v := .ref h1) (C := RCV) (T := TCV) (N := 2) hx hb hts inCV hown hK hP 0 rfl rfl 0 (by decide) (hts _ m_f_CV_9) (fun _ h9 => h9) rfl dCV_isFull_1 ?_
  refine lv_iload_n hx hb dCV_isFull_4 rfl (lv_at hl 1 rfl) ?_
  refine k_ild (v := sz k) hx hb hK hP 1 0 rfl rfl (j := k) rfl hk (by decide) rfl dCV_isFull_5 ?_
  refine lv_bipush (v := 100) hx hb dCV_isFull_6 (by decide) ?_
  refine lv_icmp_lt (tgt := 15) hx hb dCV_isFull_8 (by decide) (fun c_1 => ?_) (fun c_1 => ?_)
  · refine lv_iconst (v := 0) hx hb dCV_isFull_15 (by decide) ?_
    exact k_zret hx hb hr hlocks rfl hP hK hD hS (by unfold f_cfull; rw [if_pos c_1]) dCV_isFull_16 ⟨Nat.le_of_ble_eq_true rfl, Nat.le_of_ble_eq_true rfl⟩
  · refine lv_iconst (v := 1) hx hb dCV_isFull_11 (by decide) ?_
    refine lv_goto (tgt := 16) hx hb dCV_isFull_12 (by decide) ?_
    exact k_zret hx hb hr hlocks rfl hP hK hD hS (by unfold f_cfull; rw [if_neg c_1]) dCV_isFull_16 ⟨Nat.le_of_ble_eq_true rfl, Nat.le_of_ble_eq_true rfl⟩

abbrev rm_CV_size : Room := { frames := 0, cells := 0, slots := 0, locals := 0 }
set_option maxHeartbeats 4000000 in
set_option maxRecDepth 100000 in
theorem k_CV_size (l : Launch) (dC : Nat → ClassId) (dI : Nat → Nat → Nat) (cI cJ cG cZ : ClassId) (h0 : Nat) (h1 : Nat) (h2 : Nat) (sz : Nat → Int32) (k : Nat) (hk : k < 4) : k_M l yCV_size wsCV_size rm_CV_size (dC, dI) vwCl [(cI, .int), (cJ, .long), (cG, .array .long), (cZ, .boolean)] [.ref h0, .int (nI k)] [(h0, .inr (0, [.ref h1, .ref h2])), (h1, .inl (cI, 4, .inl sz))] (some (.int (sz k))) [(h0, .inr (0, [.ref h1, .ref h2])), (h1, .inl (cI, 4, .inl sz))] := by
  refine k_of (cc := cCV_size) (maxL := 2) (ret := (some .int)) (by decide) rfl (Nat.le_of_ble_eq_true rfl) ?_
  intro p e s m below meth c A ls hx hb hr hlocks hml hown hts hA hP hD hK hF hl hS
  have hown : s.vm.findClass RCV = some m.cls := hown
  have hl : lv_has ls 2 [(0, .ref h0), (1, .int (nI k))] := hl
  refine lv_aload_n hx hb dCV_size_0 rfl (lv_at hl 0 rfl) ?_
  refine va_get (D := (dC, dI)) (ci := 0) (v := .ref h1) (C := RCV) (T := TCV) (N := 2) hx hb hts inCV hown hK hP 0 rfl rfl 0 (by decide) (hts _ m_f_CV_9) (fun _ h9 => h9) rfl dCV_size_1 ?_
  refine lv_iload_n hx hb dCV_size_4 rfl (lv_at hl 1 rfl) ?_
  refine k_ild (v := sz k) hx hb hK hP 1 0 rfl rfl (j := k) rfl hk (by decide) rfl dCV_size_5 ?_
  exact k_iret hx hb hr hlocks hP hK hD hS rfl dCV_size_6 ⟨Nat.le_of_ble_eq_true rfl, Nat.le_of_ble_eq_true rfl⟩

abbrev rm_CV_canHold : Room := { frames := 0, cells := 0, slots := 0, locals := 0 }
set_option maxHeartbeats 4000000 in
set_option maxRecDepth 100000 in
theorem k_CV_canHold (l : Launch) (dC : Nat → ClassId) (dI : Nat → Nat → Nat) (cI cJ cG cZ : ClassId) (k : Nat) (v : Int64) (hk : k < 4) : k_M l yCV_canHold wsCV_canHold rm_CV_canHold (dC, dI) vwCl [(cI, .int), (cJ, .long), (cG, .array .long), (cZ, .boolean)] [.int (nI k), .long v] [] (some (.int (f_can k v))) [] := by
  rcases (show k = 0 ∨ k = 1 ∨ k = 2 ∨ k = 3 by omega) with rfl | rfl | rfl | rfl
  · refine k_of (cc := cCV_canHold) (maxL := 3) (ret := (some .boolean)) (by decide) rfl (Nat.le_of_ble_eq_true rfl) ?_
    intro p e s m below meth c A ls hx hb hr hlocks hml hown hts hA hP hD hK hF hl hS
    have hown : s.vm.findClass RCV = some m.cls := hown
    have hl : lv_has ls 3 [(0, .int (nI 0)), (1, .long v)] := hl
    refine lv_iload_n hx hb dCV_canHold_0 rfl (lv_at hl 0 rfl) ?_
    refine lv_tableIn (tgt := 32) (off := 31) hx hb dCV_canHold_1 (by decide) (by decide) (by decide) (by decide) ?_
    refine lv_lload_n hx hb dCV_canHold_32 rfl (lv_at hl 1 rfl) ?_
    refine lv_ldc2 (v := 32) hx hb hown (hts _ m_k_CV_20) dCV_canHold_33 ?_
    refine W.lcmp hx hb dCV_canHold_36 ?_
    refine lv_if_lt (tgt := 52) hx hb dCV_canHold_37 (by decide) (fun c_1 => ?_) (fun c_1 => ?_)
    · refine lv_iconst (v := 0) hx hb dCV_canHold_52 (by decide) ?_
      exact k_zret hx hb hr hlocks rfl hP hK hD hS (by unfold f_can f_can0; rw [if_pos rfl, if_pos c_1]) dCV_canHold_53 ⟨Nat.le_of_ble_eq_true rfl, Nat.le_of_ble_eq_true rfl⟩
    · refine lv_lload_n hx hb dCV_canHold_40 rfl (lv_at hl 1 rfl) ?_
      refine lv_ldc2 (v := 126) hx hb hown (hts _ m_k_CV_22) dCV_canHold_41 ?_
      refine W.lcmp hx hb dCV_canHold_44 ?_
      refine lv_if_gt (tgt := 52) hx hb dCV_canHold_45 (by decide) (fun c_2 => ?_) (fun c_2 => ?_)
      · refine lv_iconst (v := 0) hx hb dCV_canHold_52 (by decide) ?_
        exact k_zret hx hb hr hlocks rfl hP hK hD hS (by unfold f_can f_can0; rw [if_pos rfl, if_neg c_1, if_pos c_2]) dCV_canHold_53 ⟨Nat.le_of_ble_eq_true rfl, Nat.le_of_ble_eq_true rfl⟩
      · refine lv_iconst (v := 1) hx hb dCV_canHold_48 (by decide) ?_
        refine lv_goto (tgt := 53) hx hb dCV_canHold_49 (by decide) ?_
        exact k_zret hx hb hr hlocks rfl hP hK hD hS (by unfold f_can f_can0; rw [if_pos rfl, if_neg c_1, if_neg c_2]) dCV_canHold_53 ⟨Nat.le_of_ble_eq_true rfl, Nat.le_of_ble_eq_true rfl⟩
  · refine k_of (cc := cCV_canHold) (maxL := 3) (ret := (some .boolean)) (by decide) rfl (Nat.le_of_ble_eq_true rfl) ?_
    intro p e s m below meth c A ls hx hb hr hlocks hml hown hts hA hP hD hK hF hl hS
    have hown : s.vm.findClass RCV = some m.cls := hown
    have hl : lv_has ls 3 [(0, .int (nI 1)), (1, .long v)] := hl
    refine lv_iload_n hx hb dCV_canHold_0 rfl (lv_at hl 0 rfl) ?_
    refine lv_tableIn (tgt := 54) (off := 53) hx hb dCV_canHold_1 (by decide) (by decide) (by decide) (by decide) ?_
    refine lv_lload_n hx hb dCV_canHold_54 rfl (lv_at hl 1 rfl) ?_
    refine lv_lconst (v := 0) hx hb dCV_canHold_55 (by decide) ?_
    refine W.lcmp hx hb dCV_canHold_56 ?_
    refine lv_if_lt (tgt := 72) hx hb dCV_canHold_57 (by decide) (fun c_1 => ?_) (fun c_1 => ?_)
    · refine lv_iconst (v := 0) hx hb dCV_canHold_72 (by decide) ?_
      exact k_zret hx hb hr hlocks rfl hP hK hD hS (by unfold f_can f_can1; rw [if_neg (by decide), if_pos rfl, if_pos c_1]) dCV_canHold_73 ⟨Nat.le_of_ble_eq_true rfl, Nat.le_of_ble_eq_true rfl⟩
    · refine lv_lload_n hx hb dCV_canHold_60 rfl (lv_at hl 1 rfl) ?_
      refine lv_ldc2 (v := 255) hx hb hown (hts _ m_k_CV_24) dCV_canHold_61 ?_
      refine W.lcmp hx hb dCV_canHold_64 ?_
      refine lv_if_gt (tgt := 72) hx hb dCV_canHold_65 (by decide) (fun c_2 => ?_) (fun c_2 => ?_)
      · refine lv_iconst (v := 0) hx hb dCV_canHold_72 (by decide) ?_
        exact k_zret hx hb hr hlocks rfl hP hK hD hS (by unfold f_can f_can1; rw [if_neg (by decide), if_pos rfl, if_neg c_1, if_pos c_2]) dCV_canHold_73 ⟨Nat.le_of_ble_eq_true rfl, Nat.le_of_ble_eq_true rfl⟩
      · refine lv_iconst (v := 1) hx hb dCV_canHold_68 (by decide) ?_
        refine lv_goto (tgt := 73) hx hb dCV_canHold_69 (by decide) ?_
        exact k_zret hx hb hr hlocks rfl hP hK hD hS (by unfold f_can f_can1; rw [if_neg (by decide), if_pos rfl, if_neg c_1, if_neg c_2]) dCV_canHold_73 ⟨Nat.le_of_ble_eq_true rfl, Nat.le_of_ble_eq_true rfl⟩
  · refine k_of (cc := cCV_canHold) (maxL := 3) (ret := (some .boolean)) (by decide) rfl (Nat.le_of_ble_eq_true rfl) ?_
    intro p e s m below meth c A ls hx hb hr hlocks hml hown hts hA hP hD hK hF hl hS
    have hown : s.vm.findClass RCV = some m.cls := hown
    have hl : lv_has ls 3 [(0, .int (nI 2)), (1, .long v)] := hl
    refine lv_iload_n hx hb dCV_canHold_0 rfl (lv_at hl 0 rfl) ?_
    refine lv_tableIn (tgt := 74) (off := 73) hx hb dCV_canHold_1 (by decide) (by decide) (by decide) (by decide) ?_
    refine lv_iconst (v := 1) hx hb dCV_canHold_74 (by decide) ?_
    exact k_zret hx hb hr hlocks rfl hP hK hD hS rfl dCV_canHold_75 ⟨Nat.le_of_ble_eq_true rfl, Nat.le_of_ble_eq_true rfl⟩
  · refine k_of (cc := cCV_canHold) (maxL := 3) (ret := (some .boolean)) (by decide) rfl (Nat.le_of_ble_eq_true rfl) ?_
    intro p e s m below meth c A ls hx hb hr hlocks hml hown hts hA hP hD hK hF hl hS
    have hown : s.vm.findClass RCV = some m.cls := hown
    have hl : lv_has ls 3 [(0, .int (nI 3)), (1, .long v)] := hl
    refine lv_iload_n hx hb dCV_canHold_0 rfl (lv_at hl 0 rfl) ?_
    refine lv_tableIn (tgt := 76) (off := 75) hx hb dCV_canHold_1 (by decide) (by decide) (by decide) (by decide) ?_
    refine lv_lload_n hx hb dCV_canHold_76 rfl (lv_at hl 1 rfl) ?_
    refine lv_lconst (v := 0) hx hb dCV_canHold_77 (by decide) ?_
    refine W.lcmp hx hb dCV_canHold_78 ?_
    refine lv_if_lt (tgt := 94) hx hb dCV_canHold_79 (by decide) (fun c_1 => ?_) (fun c_1 => ?_)
    · refine lv_iconst (v := 0) hx hb dCV_canHold_94 (by decide) ?_
      exact k_zret hx hb hr hlocks rfl hP hK hD hS (by unfold f_can f_can3; rw [if_neg (by decide), if_neg (by decide), if_neg (by decide), if_pos c_1]) dCV_canHold_95 ⟨Nat.le_of_ble_eq_true rfl, Nat.le_of_ble_eq_true rfl⟩
    · refine lv_lload_n hx hb dCV_canHold_82 rfl (lv_at hl 1 rfl) ?_
      refine lv_ldc2 (v := 8) hx hb hown (hts _ m_k_CV_26) dCV_canHold_83 ?_
      refine W.lcmp hx hb dCV_canHold_86 ?_
      refine lv_if_ge (tgt := 94) hx hb dCV_canHold_87 (by decide) (fun c_2 => ?_) (fun c_2 => ?_)
      · refine lv_iconst (v := 0) hx hb dCV_canHold_94 (by decide) ?_
        exact k_zret hx hb hr hlocks rfl hP hK hD hS (by unfold f_can f_can3; rw [if_neg (by decide), if_neg (by decide), if_neg (by decide), if_neg c_1, if_pos c_2]) dCV_canHold_95 ⟨Nat.le_of_ble_eq_true rfl, Nat.le_of_ble_eq_true rfl⟩
      · refine lv_iconst (v := 1) hx hb dCV_canHold_90 (by decide) ?_
        refine lv_goto (tgt := 95) hx hb dCV_canHold_91 (by decide) ?_
        exact k_zret hx hb hr hlocks rfl hP hK hD hS (by unfold f_can f_can3; rw [if_neg (by decide), if_neg (by decide), if_neg (by decide), if_neg c_1, if_neg c_2]) dCV_canHold_95 ⟨Nat.le_of_ble_eq_true rfl, Nat.le_of_ble_eq_true rfl⟩

set_option maxHeartbeats 4000000 in
set_option maxRecDepth 100000 in
theorem k_CV_canHold_no (l : Launch) (dC : Nat → ClassId) (dI : Nat → Nat → Nat) (cI cJ cG cZ : ClassId) (x : Int32) (v : Int64) (hx0 : x.toInt < 0 ∨ 3 < x.toInt) : k_M l yCV_canHold wsCV_canHold rm_CV_canHold (dC, dI) vwCl [(cI, .int), (cJ, .long), (cG, .array .long), (cZ, .boolean)] [.int x, .long v] [] (some (.int 0)) [] := by
  refine k_of (cc := cCV_canHold) (maxL := 3) (ret := (some .boolean)) (by decide) rfl (Nat.le_of_ble_eq_true rfl) ?_
  intro p e s m below meth c A ls hx hb hr hlocks hml hown hts hA hP hD hK hF hl hS
  have hown : s.vm.findClass RCV = some m.cls := hown
  have hl : lv_has ls 3 [(0, .int x), (1, .long v)] := hl
  refine lv_iload_n hx hb dCV_canHold_0 rfl (lv_at hl 0 rfl) ?_
  refine lv_tableOut (tgt := 96) hx hb dCV_canHold_1 hx0 (by decide) ?_
  refine lv_iconst (v := 0) hx hb dCV_canHold_96 (by decide) ?_
  exact k_zret hx hb hr hlocks rfl hP hK hD hS rfl dCV_canHold_97 ⟨Nat.le_of_ble_eq_true rfl, Nat.le_of_ble_eq_true rfl⟩

abbrev rm_CV_add : Room := { frames := 0, cells := 0, slots := 0, locals := 0 }
set_option maxHeartbeats 4000000 in
set_option maxRecDepth 100000 in
theorem k_CV_add (l : Launch) (dC : Nat → ClassId) (dI : Nat → Nat → Nat) (cI cJ cG cZ : ClassId) (h0 : Nat) (h1 : Nat) (h2 : Nat) (r : Nat → Nat) (sz : Nat → Int32) (v : Nat → Nat → Int64) (k : Nat) (n : Nat) (x : Int64) (hk : k < 4) (hn : sz k = nI n) (hn1 : n < 100) : k_M l yCV_add wsCV_add rm_CV_add (dC, dI) vwCl [(cI, .int), (cJ, .long), (cG, .array .long), (cZ, .boolean)] [.ref h0, .int (nI k), .long x] [(h0, .inr (0, [.ref h1, .ref h2])), (h1, .inl (cI, 4, .inl sz)), (h2, .inl (cG, 4, .inr (.inr (.inr (.inr (f_rw r)))))), (r 0, .inl (cJ, 100, .inr (.inl (v 0)))), (r 1, .inl (cJ, 100, .inr (.inl (v 1)))), (r 2, .inl (cJ, 100, .inr (.inl (v 2)))), (r 3, .inl (cJ, 100, .inr (.inl (v 3))))] (some (.int (nI n + 1))) [(h0, .inr (0, [.ref h1, .ref h2])), (h1, .inl (cI, 4, .inl (upd sz k (nI n + 1)))), (h2, .inl (cG, 4, .inr (.inr (.inr (.inr (f_rw r)))))), (r 0, .inl (cJ, 100, .inr (.inl (f_up v k n x 0)))), (r 1, .inl (cJ, 100, .inr (.inl (f_up v k n x 1)))), (r 2, .inl (cJ, 100, .inr (.inl (f_up v k n x 2)))), (r 3, .inl (cJ, 100, .inr (.inl (f_up v k n x 3))))] := by
  rcases (show k = 0 ∨ k = 1 ∨ k = 2 ∨ k = 3 by omega) with rfl | rfl | rfl | rfl
  · refine k_of (cc := cCV_add) (maxL := 4) (ret := (some .int)) (by decide) rfl (Nat.le_of_ble_eq_true rfl) ?_
    intro p e s m below meth c A ls hx hb hr hlocks hml hown hts hA hP hD hK hF hl hS
    have hown : s.vm.findClass RCV = some m.cls := hown
    have hl : lv_has ls 4 [(0, .ref h0), (1, .int (nI 0)), (2, .long x)] := hl
    refine lv_aload_n hx hb dCV_add_0 rfl (lv_at hl 0 rfl) ?_
    refine va_get (D := (dC, dI)) (ci := 0) (v := .ref h2) (C := RCV) (T := TCV) (N := 2) hx hb hts inCV hown hK hP 0 rfl rfl 1 (by decide) (hts _ m_f_CV_17) (fun _ h9 => h9) rfl dCV_add_1 ?_
    refine lv_iload_n hx hb dCV_add_4 rfl (lv_at hl 1 rfl) ?_
    refine k_ald (x := r 0) hx hb hK hP 2 2 rfl rfl (j := 0) rfl (by decide) (by decide) rfl dCV_add_5 ?_
    refine lv_aload_n hx hb dCV_add_6 rfl (lv_at hl 0 rfl) ?_
    refine va_get (D := (dC, dI)) (ci := 0) (v := .ref h1) (C := RCV) (T := TCV) (N := 2) hx hb hts inCV hown hK hP 0 rfl rfl 0 (by decide) (hts _ m_f_CV_9) (fun _ h9 => h9) rfl dCV_add_7 ?_
    refine lv_iload_n hx hb dCV_add_10 rfl (lv_at hl 1 rfl) ?_
    refine k_ild (v := sz 0) hx hb hK hP 1 0 rfl rfl (j := 0) rfl (by decide) (by decide) rfl dCV_add_11 ?_
    refine k_topi (y := nI n) hn ?_
    refine lv_lload_n hx hb dCV_add_12 rfl (lv_at hl 2 rfl) ?_
    refine k_lst (W1 := [(h0, .inr (0, [.ref h1, .ref h2])), (h1, .inl (cI, 4, .inl sz)), (h2, .inl (cG, 4, .inr (.inr (.inr (.inr (f_rw r)))))), (r 0, .inl (cJ, 100, .inr (.inl (vp_updL (v 0) n x)))), (r 1, .inl (cJ, 100, .inr (.inl (v 1)))), (r 2, .inl (cJ, 100, .inr (.inl (v 2)))), (r 3, .inl (cJ, 100, .inr (.inl (v 3))))]) hx hb hK hP hD hS 3 1 rfl rfl (j := n) rfl hn1 (by decide) rfl dCV_add_13 (fun H locs hP hD hS => ?_)
    refine lv_aload_n hx hb dCV_add_14 rfl (lv_at hl 0 rfl) ?_
    refine va_get (D := (dC, dI)) (ci := 0) (v := .ref h1) (C := RCV) (T := TCV) (N := 2) hx hb hts inCV hown hK hP 0 rfl rfl 0 (by decide) (hts _ m_f_CV_9) (fun _ h9 => h9) rfl dCV_add_15 ?_
    refine lv_iload_n hx hb dCV_add_18 rfl (lv_at hl 1 rfl) ?_
    refine lv_dup2_11 hx hb dCV_add_19 rfl rfl ?_
    refine k_ild (v := sz 0) hx hb hK hP 1 0 rfl rfl (j := 0) rfl (by decide) (by decide) rfl dCV_add_20 ?_
    refine k_topi (y := nI n) hn ?_
    refine lv_iconst (v := 1) hx hb dCV_add_21 (by decide) ?_
    refine lv_iadd hx hb dCV_add_22 ?_
    refine k_ist (W1 := [(h0, .inr (0, [.ref h1, .ref h2])), (h1, .inl (cI, 4, .inl (upd sz 0 ((nI n) + 1)))), (h2, .inl (cG, 4, .inr (.inr (.inr (.inr (f_rw r)))))), (r 0, .inl (cJ, 100, .inr (.inl (vp_updL (v 0) n x)))), (r 1, .inl (cJ, 100, .inr (.inl (v 1)))), (r 2, .inl (cJ, 100, .inr (.inl (v 2)))), (r 3, .inl (cJ, 100, .inr (.inl (v 3))))]) hx hb hK hP hD hS 1 0 rfl rfl (j := 0) rfl (by decide) (by decide) rfl dCV_add_23 (fun H locs hP hD hS => ?_)
    refine lv_aload_n hx hb dCV_add_24 rfl (lv_at hl 0 rfl) ?_
    refine va_get (D := (dC, dI)) (ci := 0) (v := .ref h1) (C := RCV) (T := TCV) (N := 2) hx hb hts inCV hown hK hP 0 rfl rfl 0 (by decide) (hts _ m_f_CV_9) (fun _ h9 => h9) rfl dCV_add_25 ?_
    refine lv_iload_n hx hb dCV_add_28 rfl (lv_at hl 1 rfl) ?_
    refine k_ild (v := ((nI n) + 1)) hx hb hK hP 1 0 rfl rfl (j := 0) rfl (by decide) (by decide) pk_us dCV_add_29 ?_
    exact k_iret hx hb hr hlocks hP hK hD hS rfl dCV_add_30 ⟨Nat.le_of_ble_eq_true rfl, Nat.le_of_ble_eq_true rfl⟩
  · refine k_of (cc := cCV_add) (maxL := 4) (ret := (some .int)) (by decide) rfl (Nat.le_of_ble_eq_true rfl) ?_
    intro p e s m below meth c A ls hx hb hr hlocks hml hown hts hA hP hD hK hF hl hS
    have hown : s.vm.findClass RCV = some m.cls := hown
    have hl : lv_has ls 4 [(0, .ref h0), (1, .int (nI 1)), (2, .long x)] := hl
    refine lv_aload_n hx hb dCV_add_0 rfl (lv_at hl 0 rfl) ?_
    refine va_get (D := (dC, dI)) (ci := 0) (v := .ref h2) (C := RCV) (T := TCV) (N := 2) hx hb hts inCV hown hK hP 0 rfl rfl 1 (by decide) (hts _ m_f_CV_17) (fun _ h9 => h9) rfl dCV_add_1 ?_
    refine lv_iload_n hx hb dCV_add_4 rfl (lv_at hl 1 rfl) ?_
    refine k_ald (x := r 1) hx hb hK hP 2 2 rfl rfl (j := 1) rfl (by decide) (by decide) rfl dCV_add_5 ?_
    refine lv_aload_n hx hb dCV_add_6 rfl (lv_at hl 0 rfl) ?_
    refine va_get (D := (dC, dI)) (ci := 0) (v := .ref h1) (C := RCV) (T := TCV) (N := 2) hx hb hts inCV hown hK hP 0 rfl rfl 0 (by decide) (hts _ m_f_CV_9) (fun _ h9 => h9) rfl dCV_add_7 ?_
    refine lv_iload_n hx hb dCV_add_10 rfl (lv_at hl 1 rfl) ?_
    refine k_ild (v := sz 1) hx hb hK hP 1 0 rfl rfl (j := 1) rfl (by decide) (by decide) rfl dCV_add_11 ?_
    refine k_topi (y := nI n) hn ?_
    refine lv_lload_n hx hb dCV_add_12 rfl (lv_at hl 2 rfl) ?_
    refine k_lst (W1 := [(h0, .inr (0, [.ref h1, .ref h2])), (h1, .inl (cI, 4, .inl sz)), (h2, .inl (cG, 4, .inr (.inr (.inr (.inr (f_rw r)))))), (r 0, .inl (cJ, 100, .inr (.inl (v 0)))), (r 1, .inl (cJ, 100, .inr (.inl (vp_updL (v 1) n x)))), (r 2, .inl (cJ, 100, .inr (.inl (v 2)))), (r 3, .inl (cJ, 100, .inr (.inl (v 3))))]) hx hb hK hP hD hS 4 1 rfl rfl (j := n) rfl hn1 (by decide) rfl dCV_add_13 (fun H locs hP hD hS => ?_)
    refine lv_aload_n hx hb dCV_add_14 rfl (lv_at hl 0 rfl) ?_
    refine va_get (D := (dC, dI)) (ci := 0) (v := .ref h1) (C := RCV) (T := TCV) (N := 2) hx hb hts inCV hown hK hP 0 rfl rfl 0 (by decide) (hts _ m_f_CV_9) (fun _ h9 => h9) rfl dCV_add_15 ?_
    refine lv_iload_n hx hb dCV_add_18 rfl (lv_at hl 1 rfl) ?_
    refine lv_dup2_11 hx hb dCV_add_19 rfl rfl ?_
    refine k_ild (v := sz 1) hx hb hK hP 1 0 rfl rfl (j := 1) rfl (by decide) (by decide) rfl dCV_add_20 ?_
    refine k_topi (y := nI n) hn ?_
    refine lv_iconst (v := 1) hx hb dCV_add_21 (by decide) ?_
    refine lv_iadd hx hb dCV_add_22 ?_
    refine k_ist (W1 := [(h0, .inr (0, [.ref h1, .ref h2])), (h1, .inl (cI, 4, .inl (upd sz 1 ((nI n) + 1)))), (h2, .inl (cG, 4, .inr (.inr (.inr (.inr (f_rw r)))))), (r 0, .inl (cJ, 100, .inr (.inl (v 0)))), (r 1, .inl (cJ, 100, .inr (.inl (vp_updL (v 1) n x)))), (r 2, .inl (cJ, 100, .inr (.inl (v 2)))), (r 3, .inl (cJ, 100, .inr (.inl (v 3))))]) hx hb hK hP hD hS 1 0 rfl rfl (j := 1) rfl (by decide) (by decide) rfl dCV_add_23 (fun H locs hP hD hS => ?_)
    refine lv_aload_n hx hb dCV_add_24 rfl (lv_at hl 0 rfl) ?_
    refine va_get (D := (dC, dI)) (ci := 0) (v := .ref h1) (C := RCV) (T := TCV) (N := 2) hx hb hts inCV hown hK hP 0 rfl rfl 0 (by decide) (hts _ m_f_CV_9) (fun _ h9 => h9) rfl dCV_add_25 ?_
    refine lv_iload_n hx hb dCV_add_28 rfl (lv_at hl 1 rfl) ?_
    refine k_ild (v := ((nI n) + 1)) hx hb hK hP 1 0 rfl rfl (j := 1) rfl (by decide) (by decide) pk_us dCV_add_29 ?_
    exact k_iret hx hb hr hlocks hP hK hD hS rfl dCV_add_30 ⟨Nat.le_of_ble_eq_true rfl, Nat.le_of_ble_eq_true rfl⟩
  · refine k_of (cc := cCV_add) (maxL := 4) (ret := (some .int)) (by decide) rfl (Nat.le_of_ble_eq_true rfl) ?_
    intro p e s m below meth c A ls hx hb hr hlocks hml hown hts hA hP hD hK hF hl hS
    have hown : s.vm.findClass RCV = some m.cls := hown
    have hl : lv_has ls 4 [(0, .ref h0), (1, .int (nI 2)), (2, .long x)] := hl
    refine lv_aload_n hx hb dCV_add_0 rfl (lv_at hl 0 rfl) ?_
    refine va_get (D := (dC, dI)) (ci := 0) (v := .ref h2) (C := RCV) (T := TCV) (N := 2) hx hb hts inCV hown hK hP 0 rfl rfl 1 (by decide) (hts _ m_f_CV_17) (fun _ h9 => h9) rfl dCV_add_1 ?_
    refine lv_iload_n hx hb dCV_add_4 rfl (lv_at hl 1 rfl) ?_
    refine k_ald (x := r 2) hx hb hK hP 2 2 rfl rfl (j := 2) rfl (by decide) (by decide) rfl dCV_add_5 ?_
    refine lv_aload_n hx hb dCV_add_6 rfl (lv_at hl 0 rfl) ?_
    refine va_get (D := (dC, dI)) (ci := 0) (v := .ref h1) (C := RCV) (T := TCV) (N := 2) hx hb hts inCV hown hK hP 0 rfl rfl 0 (by decide) (hts _ m_f_CV_9) (fun _ h9 => h9) rfl dCV_add_7 ?_
    refine lv_iload_n hx hb dCV_add_10 rfl (lv_at hl 1 rfl) ?_
    refine k_ild (v := sz 2) hx hb hK hP 1 0 rfl rfl (j := 2) rfl (by decide) (by decide) rfl dCV_add_11 ?_
    refine k_topi (y := nI n) hn ?_
    refine lv_lload_n hx hb dCV_add_12 rfl (lv_at hl 2 rfl) ?_
    refine k_lst (W1 := [(h0, .inr (0, [.ref h1, .ref h2])), (h1, .inl (cI, 4, .inl sz)), (h2, .inl (cG, 4, .inr (.inr (.inr (.inr (f_rw r)))))), (r 0, .inl (cJ, 100, .inr (.inl (v 0)))), (r 1, .inl (cJ, 100, .inr (.inl (v 1)))), (r 2, .inl (cJ, 100, .inr (.inl (vp_updL (v 2) n x)))), (r 3, .inl (cJ, 100, .inr (.inl (v 3))))]) hx hb hK hP hD hS 5 1 rfl rfl (j := n) rfl hn1 (by decide) rfl dCV_add_13 (fun H locs hP hD hS => ?_)
    refine lv_aload_n hx hb dCV_add_14 rfl (lv_at hl 0 rfl) ?_
    refine va_get (D := (dC, dI)) (ci := 0) (v := .ref h1) (C := RCV) (T := TCV) (N := 2) hx hb hts inCV hown hK hP 0 rfl rfl 0 (by decide) (hts _ m_f_CV_9) (fun _ h9 => h9) rfl dCV_add_15 ?_
    refine lv_iload_n hx hb dCV_add_18 rfl (lv_at hl 1 rfl) ?_
    refine lv_dup2_11 hx hb dCV_add_19 rfl rfl ?_
    refine k_ild (v := sz 2) hx hb hK hP 1 0 rfl rfl (j := 2) rfl (by decide) (by decide) rfl dCV_add_20 ?_
    refine k_topi (y := nI n) hn ?_
    refine lv_iconst (v := 1) hx hb dCV_add_21 (by decide) ?_
    refine lv_iadd hx hb dCV_add_22 ?_
    refine k_ist (W1 := [(h0, .inr (0, [.ref h1, .ref h2])), (h1, .inl (cI, 4, .inl (upd sz 2 ((nI n) + 1)))), (h2, .inl (cG, 4, .inr (.inr (.inr (.inr (f_rw r)))))), (r 0, .inl (cJ, 100, .inr (.inl (v 0)))), (r 1, .inl (cJ, 100, .inr (.inl (v 1)))), (r 2, .inl (cJ, 100, .inr (.inl (vp_updL (v 2) n x)))), (r 3, .inl (cJ, 100, .inr (.inl (v 3))))]) hx hb hK hP hD hS 1 0 rfl rfl (j := 2) rfl (by decide) (by decide) rfl dCV_add_23 (fun H locs hP hD hS => ?_)
    refine lv_aload_n hx hb dCV_add_24 rfl (lv_at hl 0 rfl) ?_
    refine va_get (D := (dC, dI)) (ci := 0) (v := .ref h1) (C := RCV) (T := TCV) (N := 2) hx hb hts inCV hown hK hP 0 rfl rfl 0 (by decide) (hts _ m_f_CV_9) (fun _ h9 => h9) rfl dCV_add_25 ?_
    refine lv_iload_n hx hb dCV_add_28 rfl (lv_at hl 1 rfl) ?_
    refine k_ild (v := ((nI n) + 1)) hx hb hK hP 1 0 rfl rfl (j := 2) rfl (by decide) (by decide) pk_us dCV_add_29 ?_
    exact k_iret hx hb hr hlocks hP hK hD hS rfl dCV_add_30 ⟨Nat.le_of_ble_eq_true rfl, Nat.le_of_ble_eq_true rfl⟩
  · refine k_of (cc := cCV_add) (maxL := 4) (ret := (some .int)) (by decide) rfl (Nat.le_of_ble_eq_true rfl) ?_
    intro p e s m below meth c A ls hx hb hr hlocks hml hown hts hA hP hD hK hF hl hS
    have hown : s.vm.findClass RCV = some m.cls := hown
    have hl : lv_has ls 4 [(0, .ref h0), (1, .int (nI 3)), (2, .long x)] := hl
    refine lv_aload_n hx hb dCV_add_0 rfl (lv_at hl 0 rfl) ?_
    refine va_get (D := (dC, dI)) (ci := 0) (v := .ref h2) (C := RCV) (T := TCV) (N := 2) hx hb hts inCV hown hK hP 0 rfl rfl 1 (by decide) (hts _ m_f_CV_17) (fun _ h9 => h9) rfl dCV_add_1 ?_
    refine lv_iload_n hx hb dCV_add_4 rfl (lv_at hl 1 rfl) ?_
    refine k_ald (x := r 3) hx hb hK hP 2 2 rfl rfl (j := 3) rfl (by decide) (by decide) rfl dCV_add_5 ?_
    refine lv_aload_n hx hb dCV_add_6 rfl (lv_at hl 0 rfl) ?_
    refine va_get (D := (dC, dI)) (ci := 0) (v := .ref h1) (C := RCV) (T := TCV) (N := 2) hx hb hts inCV hown hK hP 0 rfl rfl 0 (by decide) (hts _ m_f_CV_9) (fun _ h9 => h9) rfl dCV_add_7 ?_
    refine lv_iload_n hx hb dCV_add_10 rfl (lv_at hl 1 rfl) ?_
    refine k_ild (v := sz 3) hx hb hK hP 1 0 rfl rfl (j := 3) rfl (by decide) (by decide) rfl dCV_add_11 ?_
    refine k_topi (y := nI n) hn ?_
    refine lv_lload_n hx hb dCV_add_12 rfl (lv_at hl 2 rfl) ?_
    refine k_lst (W1 := [(h0, .inr (0, [.ref h1, .ref h2])), (h1, .inl (cI, 4, .inl sz)), (h2, .inl (cG, 4, .inr (.inr (.inr (.inr (f_rw r)))))), (r 0, .inl (cJ, 100, .inr (.inl (v 0)))), (r 1, .inl (cJ, 100, .inr (.inl (v 1)))), (r 2, .inl (cJ, 100, .inr (.inl (v 2)))), (r 3, .inl (cJ, 100, .inr (.inl (vp_updL (v 3) n x))))]) hx hb hK hP hD hS 6 1 rfl rfl (j := n) rfl hn1 (by decide) rfl dCV_add_13 (fun H locs hP hD hS => ?_)
    refine lv_aload_n hx hb dCV_add_14 rfl (lv_at hl 0 rfl) ?_
    refine va_get (D := (dC, dI)) (ci := 0) (v := .ref h1) (C := RCV) (T := TCV) (N := 2) hx hb hts inCV hown hK hP 0 rfl rfl 0 (by decide) (hts _ m_f_CV_9) (fun _ h9 => h9) rfl dCV_add_15 ?_
    refine lv_iload_n hx hb dCV_add_18 rfl (lv_at hl 1 rfl) ?_
    refine lv_dup2_11 hx hb dCV_add_19 rfl rfl ?_
    refine k_ild (v := sz 3) hx hb hK hP 1 0 rfl rfl (j := 3) rfl (by decide) (by decide) rfl dCV_add_20 ?_
    refine k_topi (y := nI n) hn ?_
    refine lv_iconst (v := 1) hx hb dCV_add_21 (by decide) ?_
    refine lv_iadd hx hb dCV_add_22 ?_
    refine k_ist (W1 := [(h0, .inr (0, [.ref h1, .ref h2])), (h1, .inl (cI, 4, .inl (upd sz 3 ((nI n) + 1)))), (h2, .inl (cG, 4, .inr (.inr (.inr (.inr (f_rw r)))))), (r 0, .inl (cJ, 100, .inr (.inl (v 0)))), (r 1, .inl (cJ, 100, .inr (.inl (v 1)))), (r 2, .inl (cJ, 100, .inr (.inl (v 2)))), (r 3, .inl (cJ, 100, .inr (.inl (vp_updL (v 3) n x))))]) hx hb hK hP hD hS 1 0 rfl rfl (j := 3) rfl (by decide) (by decide) rfl dCV_add_23 (fun H locs hP hD hS => ?_)
    refine lv_aload_n hx hb dCV_add_24 rfl (lv_at hl 0 rfl) ?_
    refine va_get (D := (dC, dI)) (ci := 0) (v := .ref h1) (C := RCV) (T := TCV) (N := 2) hx hb hts inCV hown hK hP 0 rfl rfl 0 (by decide) (hts _ m_f_CV_9) (fun _ h9 => h9) rfl dCV_add_25 ?_
    refine lv_iload_n hx hb dCV_add_28 rfl (lv_at hl 1 rfl) ?_
    refine k_ild (v := ((nI n) + 1)) hx hb hK hP 1 0 rfl rfl (j := 3) rfl (by decide) (by decide) pk_us dCV_add_29 ?_
    exact k_iret hx hb hr hlocks hP hK hD hS rfl dCV_add_30 ⟨Nat.le_of_ble_eq_true rfl, Nat.le_of_ble_eq_true rfl⟩

abbrev rm_CV_valueAt : Room := { frames := 0, cells := 0, slots := 0, locals := 0 }
set_option maxHeartbeats 4000000 in
set_option maxRecDepth 100000 in
theorem k_CV_valueAt (l : Launch) (dC : Nat → ClassId) (dI : Nat → Nat → Nat) (cI cJ cG cZ : ClassId) (h0 : Nat) (h1 : Nat) (h2 : Nat) (r : Nat → Nat) (sz : Nat → Int32) (v : Nat → Nat → Int64) (k : Nat) (j : Nat) (hk : k < 4) (hj : j < 100) : k_M l yCV_valueAt wsCV_valueAt rm_CV_valueAt (dC, dI) vwCl [(cI, .int), (cJ, .long), (cG, .array .long), (cZ, .boolean)] [.ref h0, .int (nI k), .int (nI j)] [(h0, .inr (0, [.ref h1, .ref h2])), (h1, .inl (cI, 4, .inl sz)), (h2, .inl (cG, 4, .inr (.inr (.inr (.inr (f_rw r)))))), (r 0, .inl (cJ, 100, .inr (.inl (v 0)))), (r 1, .inl (cJ, 100, .inr (.inl (v 1)))), (r 2, .inl (cJ, 100, .inr (.inl (v 2)))), (r 3, .inl (cJ, 100, .inr (.inl (v 3))))] (some (.long (v k j))) [(h0, .inr (0, [.ref h1, .ref h2])), (h1, .inl (cI, 4, .inl sz)), (h2, .inl (cG, 4, .inr (.inr (.inr (.inr (f_rw r)))))), (r 0, .inl (cJ, 100, .inr (.inl (v 0)))), (r 1, .inl (cJ, 100, .inr (.inl (v 1)))), (r 2, .inl (cJ, 100, .inr (.inl (v 2)))), (r 3, .inl (cJ, 100, .inr (.inl (v 3))))] := by
  rcases (show k = 0 ∨ k = 1 ∨ k = 2 ∨ k = 3 by omega) with rfl | rfl | rfl | rfl
  · refine k_of (cc := cCV_valueAt) (maxL := 3) (ret := (some .long)) (by decide) rfl (Nat.le_of_ble_eq_true rfl) ?_
    intro p e s m below meth c A ls hx hb hr hlocks hml hown hts hA hP hD hK hF hl hS
    have hown : s.vm.findClass RCV = some m.cls := hown
    have hl : lv_has ls 3 [(0, .ref h0), (1, .int (nI 0)), (2, .int (nI j))] := hl
    refine lv_aload_n hx hb dCV_valueAt_0 rfl (lv_at hl 0 rfl) ?_
    refine va_get (D := (dC, dI)) (ci := 0) (v := .ref h2) (C := RCV) (T := TCV) (N := 2) hx hb hts inCV hown hK hP 0 rfl rfl 1 (by decide) (hts _ m_f_CV_17) (fun _ h9 => h9) rfl dCV_valueAt_1 ?_
    refine lv_iload_n hx hb dCV_valueAt_4 rfl (lv_at hl 1 rfl) ?_
    refine k_ald (x := r 0) hx hb hK hP 2 2 rfl rfl (j := 0) rfl (by decide) (by decide) rfl dCV_valueAt_5 ?_
    refine lv_iload_n hx hb dCV_valueAt_6 rfl (lv_at hl 2 rfl) ?_
    refine k_lld (v := (v 0) j) hx hb hK hP 3 1 rfl rfl (j := j) rfl hj (by decide) rfl dCV_valueAt_7 ?_
    exact k_lret hx hb hr hlocks hP hK hD hS rfl dCV_valueAt_8 ⟨Nat.le_of_ble_eq_true rfl, Nat.le_of_ble_eq_true rfl⟩
  · refine k_of (cc := cCV_valueAt) (maxL := 3) (ret := (some .long)) (by decide) rfl (Nat.le_of_ble_eq_true rfl) ?_
    intro p e s m below meth c A ls hx hb hr hlocks hml hown hts hA hP hD hK hF hl hS
    have hown : s.vm.findClass RCV = some m.cls := hown
    have hl : lv_has ls 3 [(0, .ref h0), (1, .int (nI 1)), (2, .int (nI j))] := hl
    refine lv_aload_n hx hb dCV_valueAt_0 rfl (lv_at hl 0 rfl) ?_
    refine va_get (D := (dC, dI)) (ci := 0) (v := .ref h2) (C := RCV) (T := TCV) (N := 2) hx hb hts inCV hown hK hP 0 rfl rfl 1 (by decide) (hts _ m_f_CV_17) (fun _ h9 => h9) rfl dCV_valueAt_1 ?_
    refine lv_iload_n hx hb dCV_valueAt_4 rfl (lv_at hl 1 rfl) ?_
    refine k_ald (x := r 1) hx hb hK hP 2 2 rfl rfl (j := 1) rfl (by decide) (by decide) rfl dCV_valueAt_5 ?_
    refine lv_iload_n hx hb dCV_valueAt_6 rfl (lv_at hl 2 rfl) ?_
    refine k_lld (v := (v 1) j) hx hb hK hP 4 1 rfl rfl (j := j) rfl hj (by decide) rfl dCV_valueAt_7 ?_
    exact k_lret hx hb hr hlocks hP hK hD hS rfl dCV_valueAt_8 ⟨Nat.le_of_ble_eq_true rfl, Nat.le_of_ble_eq_true rfl⟩
  · refine k_of (cc := cCV_valueAt) (maxL := 3) (ret := (some .long)) (by decide) rfl (Nat.le_of_ble_eq_true rfl) ?_
    intro p e s m below meth c A ls hx hb hr hlocks hml hown hts hA hP hD hK hF hl hS
    have hown : s.vm.findClass RCV = some m.cls := hown
    have hl : lv_has ls 3 [(0, .ref h0), (1, .int (nI 2)), (2, .int (nI j))] := hl
    refine lv_aload_n hx hb dCV_valueAt_0 rfl (lv_at hl 0 rfl) ?_
    refine va_get (D := (dC, dI)) (ci := 0) (v := .ref h2) (C := RCV) (T := TCV) (N := 2) hx hb hts inCV hown hK hP 0 rfl rfl 1 (by decide) (hts _ m_f_CV_17) (fun _ h9 => h9) rfl dCV_valueAt_1 ?_
    refine lv_iload_n hx hb dCV_valueAt_4 rfl (lv_at hl 1 rfl) ?_
    refine k_ald (x := r 2) hx hb hK hP 2 2 rfl rfl (j := 2) rfl (by decide) (by decide) rfl dCV_valueAt_5 ?_
    refine lv_iload_n hx hb dCV_valueAt_6 rfl (lv_at hl 2 rfl) ?_
    refine k_lld (v := (v 2) j) hx hb hK hP 5 1 rfl rfl (j := j) rfl hj (by decide) rfl dCV_valueAt_7 ?_
    exact k_lret hx hb hr hlocks hP hK hD hS rfl dCV_valueAt_8 ⟨Nat.le_of_ble_eq_true rfl, Nat.le_of_ble_eq_true rfl⟩
  · refine k_of (cc := cCV_valueAt) (maxL := 3) (ret := (some .long)) (by decide) rfl (Nat.le_of_ble_eq_true rfl) ?_
    intro p e s m below meth c A ls hx hb hr hlocks hml hown hts hA hP hD hK hF hl hS
    have hown : s.vm.findClass RCV = some m.cls := hown
    have hl : lv_has ls 3 [(0, .ref h0), (1, .int (nI 3)), (2, .int (nI j))] := hl
    refine lv_aload_n hx hb dCV_valueAt_0 rfl (lv_at hl 0 rfl) ?_
    refine va_get (D := (dC, dI)) (ci := 0) (v := .ref h2) (C := RCV) (T := TCV) (N := 2) hx hb hts inCV hown hK hP 0 rfl rfl 1 (by decide) (hts _ m_f_CV_17) (fun _ h9 => h9) rfl dCV_valueAt_1 ?_
    refine lv_iload_n hx hb dCV_valueAt_4 rfl (lv_at hl 1 rfl) ?_
    refine k_ald (x := r 3) hx hb hK hP 2 2 rfl rfl (j := 3) rfl (by decide) (by decide) rfl dCV_valueAt_5 ?_
    refine lv_iload_n hx hb dCV_valueAt_6 rfl (lv_at hl 2 rfl) ?_
    refine k_lld (v := (v 3) j) hx hb hK hP 6 1 rfl rfl (j := j) rfl hj (by decide) rfl dCV_valueAt_7 ?_
    exact k_lret hx hb hr hlocks hP hK hD hS rfl dCV_valueAt_8 ⟨Nat.le_of_ble_eq_true rfl, Nat.le_of_ble_eq_true rfl⟩
end
section
/-! ===== methods that throw: what they leave, how the caller goes on ===== -/
section KT
theorem k_decl {y : MethodName} {bs : ByteArray} {n : Nat} {r : Option FieldType} {args : Array Value} {s : State} (hts : ∀ x ∈ wsA, x.before args s = true) (h1 : Cond.instanceMethod y ∈ wsA) (h2 : Cond.code y bs n r ∈ wsA) : (Cond.declares y).before args s = true := by
  obtain ⟨m, meth, hn, hm, hst, -⟩ := Cond.instanceMethod_spec (hts _ h1)
  obtain ⟨meth', c, hm', -, -, -, -, -, -, hsig⟩ := Cond.code_spec hn (hts _ h2)
  cases hm.symm.trans hm'
  simp [Cond.before, Cond.holds, Cond.value, hn, hm, hst, hsig]
theorem k_dcR : Cond.instanceMethod (Bundle.initS "java/lang/RuntimeException") ∈ wsA ∧ Cond.code (Bundle.initS "java/lang/RuntimeException") Bundle.six 2 none ∈ wsA := by decide +kernel
theorem k_dcE : Cond.instanceMethod (Bundle.initS "java/lang/Exception") ∈ wsA ∧ Cond.code (Bundle.initS "java/lang/Exception") Bundle.six 2 none ∈ wsA := by decide +kernel
theorem k_dcT : Cond.instanceMethod (Bundle.initS Bundle.tN) ∈ wsA ∧ Cond.code (Bundle.initS Bundle.tN) LibCode.Throwable.InitS.code 2 none ∈ wsA := by decide +kernel
def k_TQ (D : va_G) (cl : List vw_C) (tys : List (ClassId × FieldType)) (E : String) (w' : va_W) (A : Nat → Prop) (mc ms : Nat) : Array Value → State → Outcome → State → Prop :=
  fun _ st oc t => ∃ (q : Addr) (ce : Cell) (L : List Loc), oc = .threw q ∧ (va_P D cl w' t.heap ∧ va_K D cl tys t ∧ va_D A w' ∧ va_F A st t) ∧ (t.heap[q]? = some ce ∧ ce.vm = .none ∧ st.vm.findClass E = some ce.cls) ∧ st.WarmedH t.vm ∧ st.sameButNew ({ t with vm := st.vm } : State) L mc ms ∧ ∀ z ∈ L, A z.base
/-- y, given av and the cells w, throws an E and leaves the cells w' -/
def k_T (l : Launch) (y : MethodName) (ws : List Cond) (rm : Room) (D : va_G) (cl : List vw_C) (tys : List (ClassId × FieldType)) (av : List Value) (w : va_W) (E : String) (w' : va_W) : Prop :=
  ∀ sz : Nat, MetFree l y (headSpec ws rm) (k_Pc D cl tys av w sz) (fun _ _ _ _ _ => True) (k_TQ D cl tys E w' (va_A w sz) rm.cells rm.slots)
def k_TM (below : List Frame) (Qc : Array Value → State → Outcome → State → Prop) (a : Array Value) (s : State) : State → Prop := fun t => ∃ o, t.status = .running ∧ Ended t below o ∧ Qc a s o t
theorem k_tof {l : Launch} {y : MethodName} {ws : List Cond} {rm : Room} {D : va_G} {cl : List vw_C} {tys : List (ClassId × FieldType)} {av : List Value} {w w' : va_W} {E : String} {cc : ByteArray} {maxL : Nat} {ret : Option FieldType}
    (hy : plainName y.cls = true) (hw : ws = Cond.code y cc maxL ret :: wsA) (hlen : (lg_sl av).length ≤ maxL)
    (body : ∀ (p : Program) (e : Env) (s : State) (m : MethodId) (below : List Frame) (meth : Method) (c : Code) (A : Nat → Prop) (ls : Array Slot), p.tables.exec = Jvm.exec → c.code = cc → meth.sig.returnType = ret → meth.locks = false → c.maxLocals = maxL → s.vm.findClass y.cls = some m.cls → (∀ x ∈ wsA, x.before av.toArray s = true) → (∀ q : Nat, s.heap.size ≤ q → A q) →
      va_P D cl w s.heap → va_D A w → va_K D cl tys s → k_F A s → lv_has ls maxL (lv_args 0 av) → va_S A s.heap s.heap [] → (∀ (x : ExceptionTableEntry) (pc : Nat), x ∈ c.exceptionTable.toList → covers x pc = false) →
      W p l e rm s m av.toArray below meth c s.heap [] 0 0 (k_TM below (k_TQ D cl tys E w' A rm.cells rm.slots) av.toArray s) (F0 m 0 ls [])) : k_T l y ws rm D cl tys av w E w' := by
  intro sz
  refine MetFree.of_bodyS (code := cc) (maxLocals := maxL) (ret := ret) hy ?_ ?_
  · intro args s m h hn
    obtain ⟨meth, c, h1, h2, h3, h4, h5, h6, -, -⟩ := Cond.code_spec hn (atoms_spec (ws := ws) h _ (by rw [hw]; exact List.mem_cons_self))
    exact ⟨meth, c, h1, h2, h3, h4, h5, h6⟩
  · intro p e s m args below meth c s₁ B hml hv _
    obtain ⟨rfl, hsz, hP, hK, hD0, hF⟩ := hv
    subst hsz
    have hh0 : s₁.heap = s.heap := by rw [B.state]; rfl
    have hemp := B.noHandlers (atoms_spec (ws := ws) B.pre _ (by rw [hw]; exact List.mem_cons_self))
    have ht : ∀ (x : ExceptionTableEntry) (pc : Nat), x ∈ c.exceptionTable.toList → covers x pc = false := by
      intro x pc hx
      rw [Array.isEmpty_iff.mp hemp] at hx
      cases hx
    have hl := lv_entry av (n := maxL) hlen
    have K := body p e s m below meth c (va_A w s.heap.size) _ B.exec B.bytes B.returns B.notSynchronized hml (findClass_of_methodNamed B.named) (fun x hx => atoms_spec (ws := ws) B.pre x (by rw [hw]; exact List.mem_cons_of_mem _ hx)) (fun q h => Or.inr h) hP hD0.self hK hF hl va_S.rf ht
    rw [← lg_entry_eq] at K
    obtain ⟨t, a1, o, b1, b2, b3⟩ := K s₁ hh0 (Stand.of_body B)
    exact ⟨t, o, a1, b1, b2, b3⟩
section Rows
variable {p : Program} {l : Launch} {e : Env} {R : Room} {s : State} {m : MethodId} {args : Array Value} {below : List Frame} {meth : Method} {c : Code} {H : Heap} {locs : List Loc} {cells slots : Nat} {Q : State → Prop}
variable {cc : ByteArray} {pc : Nat} {ls : Array Slot} {rest st0 : List Value} {D : va_G} {cl : List vw_C} {A : Nat → Prop} {tys : List (ClassId × FieldType)} {w w' wr W0 W1 : va_W} {E : String} {mc ms : Nat}
/-- the frame g, with q thrown over it -/
def k_H (p : Program) (l : Launch) (e : Env) (R : Room) (s : State) (m : MethodId) (args : Array Value) (below : List Frame) (meth : Method) (c : Code) (H : Heap) (locs : List Loc) (cells slots : Nat) (Q : State → Prop) (g : JFrame) (q : Addr) : Prop :=
  ∀ T : State, T.heap = H → Stand p l e R s m args below meth c T locs cells slots → ∃ t, Steps p.tables e below ((T.setTop g).pushFrame (.throwing q)) t ∧ Q t
/-- the frame seen from the heap as it is now -/
theorem k_base {T : State} (X : Stand p l e R s m args below meth c T locs cells slots) {R' : Room} (hf : R'.frames ≤ R.frames) (hl : R'.locals ≤ R.locals) (hc : cells + R'.cells ≤ R.cells) (hs : slots + R'.slots ≤ R.slots) :
    Stand p l e R' ((T.setVm s.vm).setFrames (.invoking m args :: below)) m args below meth c T [] 0 0 := by
  have htop : (T.setVm s.vm).topJava?.isSome := X.here.top
  have hF : ((T.setVm s.vm).setFrames (.invoking m args :: below)).frames = .invoking m args :: below := State.frames_setFrames _ (State.cur_lt_of_top htop)
  obtain ⟨g₀, hg0⟩ := Option.isSome_iff_exists.mp htop
  obtain ⟨r, hr⟩ := State.topJava?_eq_some.mp hg0
  have hlim : e.platform.stackLimits (T.setVm s.vm).me = e.platform.stackLimits s.me := X.limits
  have hby : (T.setVm s.vm).me.stackBytes = s.me.stackBytes := X.bytes
  have hroom := X.room
  have hU : ((T.setVm s.vm).setFrames (.invoking m args :: below)).localsInUse = s.localsInUse := by
    rw [State.localsInUse_invoking hF (meth := meth) (c := c) X.method X.code, State.localsInUse_invoking X.frames X.method X.code]
  have h1 := X.heapSize
  have h2 := X.used
  refine ⟨X.admits, X.cas, X.clock, hF, ?_, X.hears, X.method, X.code, X.here, X.tail, X.warmed, ?_, ?_, ?_⟩
  · simp only [State.hasRoom, Bool.and_eq_true, decide_eq_true_eq] at hroom ⊢
    obtain ⟨⟨⟨⟨a1, a2, a3, a4, a5, a6⟩, a7⟩, a8⟩, a9⟩ := hroom
    rw [X.frames, List.length_cons] at a2 a3
    simp only [hF, hU, List.length_cons, State.stackLimits_setFrames, State.stackBytes_setFrames, hlim, hby]
    refine ⟨⟨⟨⟨by omega, by omega, by omega, by omega, by omega, a6⟩, ?_⟩, ?_⟩, X.book⟩
    · show T.heap.size + R'.cells ≤ e.platform.maxCells
      omega
    · show T.slotsUsed + R'.slots ≤ e.platform.maxSlots
      omega
  · rw [State.stackLimits_setFrames]; rfl
  · rw [State.stackBytes_setFrames]; rfl
  · have hz : ((T.heap.toList.drop T.heap.size).map (·.slots.size)).sum = 0 := by
      rw [List.drop_eq_nil_of_le (Nat.le_of_eq Array.length_toList)]; rfl
    refine ⟨?_, Nat.le_refl _, Nat.le_refl _, ?_, ?_, fun a c9 h9 => ⟨c9, h9, rfl, rfl, fun _ _ => rfl⟩⟩
    · obtain ⟨t, ht, -⟩ := State.frames_cons hr
      show T.setVm s.vm = { ((T.setVm s.vm).setFrames (.invoking m args :: below)).setFrames (T.setVm s.vm).frames with heap := T.heap, slotsUsed := T.slotsUsed }
      rw [State.setFrames_setFrames, State.setFrames_self ht]
      rfl
    · show T.slotsUsed = T.slotsUsed + ((T.heap.toList.drop T.heap.size).map (·.slots.size)).sum
      rw [hz, Nat.add_zero]
    · show ((T.heap.toList.drop T.heap.size).map (·.slots.size)).sum ≤ 0
      rw [hz]; exact Nat.le_refl _
theorem k_old {u U : State} {k n : Nat} (h : u.sameButNew ({ U with vm := u.vm } : State) [] k n) : u.heap.size ≤ U.heap.size ∧ ∀ q : Nat, q < u.heap.size → U.heap[q]? = u.heap[q]? := by
  obtain ⟨-, h2, -, -, -, h6⟩ := h
  refine ⟨h2, fun q hq => ?_⟩
  obtain ⟨c9, e1, e2, -, e4⟩ := h6 q _ (Array.getElem?_eq_getElem hq)
  have hs : c9.slots = (u.heap[q]).slots := Array.ext_getElem? fun i => e4 i (fun hm => nomatch hm)
  rw [hs] at e2
  have e5 : U.heap[q]? = some c9 := e1
  rw [e5, show c9 = u.heap[q] from e2, Array.getElem?_eq_getElem hq]
/-- 'throw new E("text")' -/
theorem k_thr {own cls text : String} {names : List String} {ik is ic : Nat} (hx : p.tables.exec = Jvm.exec) (hb : c.code = cc) (hlt : l.stackTraces = false) (hown : s.vm.findClass own = some m.cls) (hts : ∀ x ∈ wsA, x.before args s = true)
    (hcls : Bundle.fit cls = true) (hnames : ∀ n ∈ names, Bundle.fit n = true) (hk : Cond.classLink own ik cls ∈ wsA) (hini : Cond.initialized cls ∈ wsA) (hstr : (own, is, text) ∈ strL) (hex : cls ∈ exL)
    (hat : ∀ x ∈ Bundle.ownAtoms own ic cls names, x ∈ wsA ∨ x = .castable cls cls ∨ x = .laysStatic Bundle.tN "UNASSIGNED_STACK" Bundle.steD ∨ x = .laysStatic Bundle.tN "SUPPRESSED_SENTINEL" Bundle.listD ∨ x = .isRef (.static Bundle.tN "UNASSIGNED_STACK" Bundle.steD) ∨ x = .isRef (.static Bundle.tN "SUPPRESSED_SENTINEL" Bundle.listD) ∨ x = .declares (Bundle.initS "java/lang/RuntimeException") ∨ x = .declares (Bundle.initS "java/lang/Exception") ∨ x = .declares (Bundle.initS Bundle.tN))
    (hF : k_F A s) (hS : va_S A s.heap H locs) (hsize : ls.size = c.maxLocals)
    (d0 : decode cc pc = .ok (.new ik, 3)) (d3 : decode cc (pc + 3) = .ok (.dup, 1)) (d4 : decode cc (pc + 4) = .ok (.ldc is, 2)) (d6 : decode cc (pc + 6) = .ok (.invokespecial ic, 3)) (d9 : decode cc (pc + 9) = .ok (.athrow, 1))
    (hout : ∀ x ∈ c.exceptionTable.toList, covers x (pc + 9) = false)
    (hRframes : names.length + 3 < R.frames) (hRlocals : (rest.map fun v => v.category).sum + (13 * (names.length + 1) + 43) ≤ R.locals) (hRcells : cells + 1 ≤ R.cells) (hRslots : slots + 6 ≤ R.slots) (hlocks : meth.locks = false)
    (hP : va_P D cl w' H) (hK : va_K D cl tys s) (hD : va_D A w') (hc : cells + 1 ≤ mc) (hs : slots + 6 ≤ ms) :
    W p l e R s m args below meth c H locs cells slots (k_TM below (k_TQ D cl tys cls w' A mc ms) args s) (F0 m pc ls rest) := by
  intro T hT X
  have htr : e.platform.stackTraces = false := (show e.platform.stackTraces = l.stackTraces by rw [X.admits.platform]).trans hlt
  have Y := k_base X (R' := { frames := R.frames, locals := R.locals, cells := 1, slots := 6 }) (Nat.le_refl _) (Nat.le_refl _) hRcells hRslots
  obtain ⟨s', hA⟩ : ∃ z, z = (T.setVm s.vm).setFrames (.invoking m args :: below) := ⟨_, rfl⟩
  rw [← hA] at Y
  have hvm : s'.vm = s.vm := by rw [hA]; rfl
  have hhp : s'.heap = H := by rw [hA]; exact hT
  have hW0 : s.WarmedH s'.vm := by rw [hvm]; exact State.WarmedH.refl s
  have hts' : ∀ x ∈ wsA, x.before args s' = true := fun x hx9 => word_at hW0 (wa_good x hx9) (hts x hx9)
  have hF' : k_F (fun _ => False) s' := k_F.go hF hS (fun _ h => h.elim) hhp hW0 (fun _ h => h.elim)
  obtain ⟨-, f2, f3, -, ⟨f5, f6⟩, ⟨f7, f8, -⟩, -⟩ := hF'
  have hlay : ∀ {d n : String}, (Cond.laysStatic Bundle.tN n d).before #[] s' = true → (Cond.laysStatic Bundle.tN n d).before args s' = true := fun h => k_lay (Vm.Alike.refl _) (fun _ _ h _ => h) h
  have h : ∀ x ∈ Bundle.ownAtoms own ic cls names, x.before args s' = true := by
    intro x hx9
    rcases hat x hx9 with h | rfl | rfl | rfl | rfl | rfl | rfl | rfl | rfl
    · exact hts' x h
    · exact va_Nw.use rfl (f2 cls hex)
    · exact hlay f7
    · exact hlay f8
    · exact k_isR f5
    · exact k_isR f6
    · exact k_decl hts' k_dcR.1 k_dcR.2
    · exact k_decl hts' k_dcE.1 k_dcE.2
    · exact k_decl hts' k_dcT.1 k_dcT.2
  obtain ⟨sa, hstr'⟩ := f3 _ hstr
  have hown' : s'.vm.findClass own = some m.cls := by rw [hvm]; exact hown
  have hins : (Cond.instantiable cls 6).before args s' = true := h _ (by simp [Bundle.ownAtoms])
  obtain ⟨vm₁, cX, kX, hfX, hkX, -, -, X₁, st1⟩ := Y.newCold hx (own := own) (C := cls) (index := ik) (n := 6) hown' (hts' _ hk) hins (hts' _ hini) (g := F0 m pc ls rest) rfl (by rw [hb]; exact d0) (Nat.le_refl _) (Nat.le_refl _)
  generalize hT1 : (T.setVm vm₁).pushCell { cls := cX, slots := kX.instanceTypes.map defaultValue, vm := .none } = T1 at X₁ st1
  have hcat : (Value.ref T.heap.size).category = 1 := rfl
  have hcellA : T1.heap[T.heap.size]? = some (freshCell cX kX) := by rw [← hT1]; exact State.heap_pushCell_size _ _
  have d3' : decode c.code (pc + 3) = .ok (.dup, 1) := by rw [hb]; exact d3
  have d4' : decode c.code (pc + 4) = .ok (.ldc is, 2) := by rw [hb]; exact d4
  obtain ⟨U, hsteps, hrun, hend, hW, hsame, ce, hce, hO⟩ := X₁.ctorThrowS hx htr (own := own) (cls := cls) (names := names) (ic := ic) hown' hcls hnames h (fun x hx9 => nomatch hx9) hfX hkX hcellA (by rw [hhp, hT]; exact Nat.le_refl _) (msg := .ref sa) rfl
    (g := { method := m, pc := pc + 6, locals := ls, stack := .ref sa :: .ref T.heap.size :: .ref T.heap.size :: rest, locked := none }) rfl hsize rfl rfl (rest := rest) rfl
    (by rw [hb]; exact d6) (by rw [hb]; exact d9) hout hRframes (by simp only [List.map_cons, List.sum_cons, hcat]; omega) hlocks
  obtain ⟨o1, o2⟩ := k_old hsame
  rw [hhp] at o1 o2
  have hWs : s.WarmedH U.vm := State.WarmedH.trans hW0 hW
  have hcl : s.vm.findClass cls = some ce.cls := by
    have h9 := hO.cls
    rw [hvm] at h9
    exact h9
  have hall : s.sameButNew ({ U with vm := s.vm } : State) locs mc ms := by
    subst hA
    obtain ⟨e1, e2⟩ := hsame
    rw [State.setFrames_setFrames] at e1
    have h2 : (T.setVm s.vm).sameButNew ({ U with vm := s.vm } : State) [] (0 + 1) (0 + 6) := ⟨e1, e2⟩
    have h3 := X.same.trans h2
    rw [List.append_nil] at h3
    exact h3.mono hc hs
  refine ⟨U, ?_, .threw T.heap.size, hrun, hend, T.heap.size, ce, locs, rfl, ⟨hP.kept (fun k q hk9 => o2 q.1 ((hP k q hk9).lt)), va_K.moved hWs.alike hK, hD, ⟨Nat.le_trans hS.1 o1, fun q h1 h2 => (o2 q (Nat.lt_of_lt_of_le h1 hS.1)).trans (hS.2.1 q h1 h2)⟩⟩, ⟨hce, hO.vm, hcl⟩, hWs, hall, hS.2.2⟩
  refine st1 _ ?_
  show Steps p.tables e below (T1.setTop { method := m, pc := pc + 3, locals := ls, stack := .ref T.heap.size :: rest, locked := none }) _
  jvm_step X₁.here [X₁.here.top, hx, d3', Value.category]
  exact X₁.ldcString hx (own := own) (text := text) (index := is) (a := sa) hown' hstr'.1 hstr'.2
    (g := { method := m, pc := pc + 4, locals := ls, stack := .ref T.heap.size :: .ref T.heap.size :: rest, locked := none }) rfl d4' _ hsteps
/-- thrown by a callee, not caught here -/
theorem k_pass {ce : Cell} {q : Addr} (hout : ∀ x ∈ c.exceptionTable.toList, covers x pc = false) (hlocks : meth.locks = false) (hcell : H[q]? = some ce) (hv : ce.vm = .none) (hcl : s.vm.findClass E = some ce.cls)
    (hP : va_P D cl w' H) (hK : va_K D cl tys s) (hD : va_D A w') (hS : va_S A s.heap H locs) (hc : cells ≤ mc ∧ slots ≤ ms) :
    k_H p l e R s m args below meth c H locs cells slots (k_TM below (k_TQ D cl tys E w' A mc ms) args s) (F0 m pc ls rest) q := by
  intro T hT X
  obtain ⟨st1, hrun, hend, hW, hsm⟩ := X.leaveThrown q (g := F0 m pc ls rest) rfl rfl rfl hout hlocks
  have hh : (T.setFrames (.throwing q :: below)).heap = H := hT
  exact ⟨_, st1, .threw q, hrun, hend, q, ce, locs, rfl, ⟨by rw [hh]; exact hP, va_K.moved hW.alike hK, hD, hS.F hh⟩, ⟨by rw [hh]; exact hcell, hv, hcl⟩, hW, hsm.mono hc.1 hc.2, hS.2.2⟩
/-- caught by the row x of this method's table; the rows ahead don't take it -/
theorem k_catch {own : String} {ce : Cell} {q : Addr} (hown : s.vm.findClass own = some m.cls) (hts : ∀ x ∈ wsA, x.before args s = true) (hF : k_F A s) (pre : List ExceptionTableEntry) (x : ExceptionTableEntry) (suf : List ExceptionTableEntry) (hsplit : c.exceptionTable.toList = pre ++ x :: suf)
    (hpass : ∀ z ∈ pre, covers z pc = false ∨ (z.catchType ≠ 0 ∧ ∃ nm : String, Cond.classLink own z.catchType nm ∈ wsA ∧ (E, nm) ∈ ncL)) (hx : covers x pc = true) (h0 : x.catchType ≠ 0)
    (hlink : Cond.classLink own x.catchType E ∈ wsA) (hex : E ∈ exL) (hcell : H[q]? = some ce) (hv : ce.vm = .none) (hcl : s.vm.findClass E = some ce.cls)
    (kk : W p l e R s m args below meth c H locs cells slots Q (F0 m x.handlerPc ls [.ref q])) : k_H p l e R s m args below meth c H locs cells slots Q (F0 m pc ls rest) q := by
  intro T hT X
  have hpl : e.platform.magicAccessors = ({} : Platform).magicAccessors := by rw [X.admits.platform]
  have hcast : (Cond.castable E E).before args s = true := va_Nw.use rfl (hF.2.1 E hex)
  obtain ⟨c3, c4, hc3, hc4, hasg⟩ := Cond.castable_spec hcast
  cases Option.some.inj (hc3.symm.trans hcl)
  obtain ⟨c5, hc5, hcl5⟩ := Cond.classLink_spec hown (hts _ hlink) e.platform hpl
  cases Option.some.inj (hc4.symm.trans hc5)
  obtain ⟨vm', X', st⟩ := X.thenCaughtThrough q (g := F0 m pc ls rest) rfl (Steps.refl _) (by rw [hT]; exact hcell) (by rw [hv]; rfl) (by obtain ⟨k9, h9, -⟩ := Vm.findClass_spec hcl; exact ⟨k9, h9⟩) pre x suf hsplit
    (fun z hz => by
      rcases hpass z hz with h | ⟨hz0, nm, hl1, hn1⟩
      · exact Or.inl h
      · obtain ⟨c6, hc6, hcl6⟩ := Cond.classLink_spec hown (hts _ hl1) e.platform hpl
        obtain ⟨a8, b8, h1, h2, h3⟩ := hF.2.2.2.1 _ hn1
        cases Option.some.inj (h1.symm.trans hcl)
        cases Option.some.inj (h2.symm.trans hc6)
        exact Or.inr ⟨hz0, _, hcl6, h3⟩) hx (Or.inr ⟨h0, c4, hcl5, hasg⟩)
  obtain ⟨t, a1, b1⟩ := kk (T.setVm vm') hT X'
  exact ⟨t, st.trans a1, b1⟩
variable {y : MethodName} {bytes : ByteArray} {maxL nL n index : Nat} {ret : Option FieldType} {wsM Ts : List Cond} {rm : Room} {own C host : String} {b : Nat} {As : List Value}
theorem k_VT {ci : Nat} {fs : List Value} {q : vw_C} (S : CallFix p m c cc nL s args Ts own) (hM : k_T l y wsM rm D cl tys (.ref b :: As) w E w') (cw : CallW R s args own C index y bytes maxL ret wsM rm rm.cells rm.slots n)
    (hK : va_K D cl tys s) (hF : k_F A s) (hP : va_P D cl W0 H) (hD : va_D A W0) (hS : va_S A s.heap H locs) (hA : ∀ q : Nat, s.heap.size ≤ q → A q)
    (isC isR isO : List Nat) (hC : isC.map (fun i => W0[i]?) = w.map some) (hR : isR.map (fun i => W0[i]?) = wr.map some) (hnC : va_nd isC = true) (hn : va_nd isR = true) (hdis : ∀ i ∈ isR, i ∉ isC) (hO : isO.map (fun i => (wr ++ w')[i]?) = W1.map some) (hnO : va_nd isO = true)
    (he : w[0]? = some (b, .inr (ci, fs))) (hc : cl[ci]? = some q) (hq : q.1 = C) (hlen : As.length = n) (hsize : ls.size = nL) (hst : st0 = As.reverse ++ .ref b :: rest) (hW : (rest.map fun v => v.category).sum ≤ 8) (hdg : decode cc pc = .ok (.invokevirtual index, 3)) (hf : cells + rm.cells ≤ R.cells ∧ slots + rm.slots ≤ R.slots)
    (kk : ∀ (q9 : Addr) (ce : Cell) (H1 : Heap) (locs1 : List Loc), va_P D cl W1 H1 → va_D A W1 → va_S A s.heap H1 locs1 → H1[q9]? = some ce → ce.vm = .none → s.vm.findClass E = some ce.cls → k_H p l e R s m args below meth c H1 locs1 (cells + rm.cells) (slots + rm.slots) Q (F0 m pc ls rest) q9) : W p l e R s m args below meth c H locs cells slots Q (F0 m pc ls st0) := by
  have hPc := hP.sub isC (k_fm hC)
  have hDc := hD.sub isC hnC hC
  have hFc := va_free (wc := w) hD hS hA isC hC
  subst hst; subst hq
  obtain ⟨⟨-, -, hfr, hlo, hws, hcw, hcode, hini, hy, hlen', hl⟩, hin, hse⟩ := cw
  obtain ⟨hx, hb, hml, ho, -⟩ := S
  obtain ⟨cellB, hcB, hoB, hclB⟩ := va_recv hK hPc hc he
  intro T hT X
  obtain ⟨mk, methM, hnamed, hmethM, hstM, habM⟩ := Cond.instanceMethod_spec hin
  obtain ⟨methM', cM, hmethM', -, -, -, -, -, -, hsigM⟩ := Cond.code_spec hnamed hcode
  cases hmethM.symm.trans hmethM'
  obtain ⟨c2, r2, m2, q1, q2, q3, q4, kP, hkP, hkPi⟩ := Cond.selects_spec hse
  cases hclB.symm.trans q1
  cases (State.methodFound?_of_named hnamed hy).symm.trans q2
  cases hnamed.symm.trans q3
  have hselP : selectMethod e.platform s.vm cellB.cls mk = .method mk := by rw [Launch.admits_selectMethod X.admits]; exact q4
  obtain ⟨vm₁, X₁, hstep₁⟩ := X.invokevirtual hx ho hl hnamed hmethM hstM hkP hkPi hy (a := b) (cell := cellB) (by rw [hT]; exact hcB)
    (fun z h => by rw [h] at hoB; cases hoB) hselP hmethM habM hkP hkPi (g := F0 m pc ls (As.reverse ++ .ref b :: rest)) rfl (argsL := As) (rest := rest) (by rw [hlen]; exact hlen' _ hsigM) rfl (by rw [hb]; exact hdg)
  have hn1 : (T.setVm vm₁).methodNamed? y = some mk := X₁.named hnamed
  have h2 : (Cond.code y bytes maxL ret).before (Value.ref b :: As).toArray (T.setVm vm₁) = true := hws _ hcw _ _ X₁.warmed
  obtain ⟨methY, cY, hmY, hcY, -, hlY, -, -, -, -⟩ := Cond.code_spec hn1 h2
  obtain ⟨kY, hkY, -⟩ := className_of_methodNamed hn1
  have hini1 : (Cond.initialized y.cls).before (Value.ref b :: As).toArray (T.setVm vm₁) = true := word_at X₁.warmed (Or.inl (by first | rfl | simp [Cond.onTables, Cond.keeps, Cond.steady])) hini
  have hinitY : kY.init = .initialized := Cond.initialized_spec (findClass_of_methodNamed hn1) hkY hini1
  have hdg1 : decode c.code (F0 m pc ls rest).pc = .ok (.invokevirtual index, 3) := by rw [hb]; exact hdg
  have hW8 : 2 * (F0 m pc ls rest).monitorRoom + ((F0 m pc ls rest).stack.map fun v => v.category).sum ≤ 8 := lv_room (m := m) (pc := pc) (ls := ls) (rest := rest) hW
  have hlo9 : 8 + (maxL + 11) + (headSpec wsM rm).room.locals ≤ R.locals := hlo
  have hcells9 : cells + (headSpec wsM rm).room.cells ≤ R.cells := hf.1
  have hslots9 : slots + (headSpec wsM rm).room.slots ≤ R.slots := hf.2
  have hfr9 : (headSpec wsM rm).room.frames + 1 ≤ R.frames := hfr
  have happ : (headSpec wsM rm).appliesLoose y e.platform ((T.setVm vm₁).calling (F0 m pc ls rest) mk (Value.ref b :: As).toArray) = true :=
    Spec.appliesLoose_calling (g := F0 m pc ls rest) X₁.here hdg1 hn1 hkY hinitY
      (X₁.room_calling (g := F0 m pc ls rest) (R' := (headSpec wsM rm).room) (hsize.trans hml.symm) hmY hcY hfr9 (by rw [hlY]; omega) hcells9 hslots9) (atoms_intro fun x hx9 => hws x hx9 _ _ X₁.warmed)
  obtain ⟨mid, hmid⟩ := X₁.here.above
  have hfrm : ((T.setVm vm₁).setTop (F0 m pc ls rest)).frames = (.java (F0 m pc ls rest) :: mid) ++ below := by rw [State.frames_setTop' _ X₁.here.top, hmid]; rfl
  have hPc9 : k_Pc D cl tys (.ref b :: As) w H.size (Value.ref b :: As).toArray ((T.setVm vm₁).calling (F0 m pc ls rest) mk (Value.ref b :: As).toArray) :=
    k_blind _ _ _ _ ⟨rfl, by show T.heap.size = H.size; rw [hT], by show va_P D cl w T.heap; rw [hT]; exact hPc, va_K.moved X₁.warmed.alike hK, hDc.weaken (fun _ _ _ _ => trivial), k_F.go hF hS hFc hT X₁.warmed (k_ns hPc)⟩
  obtain ⟨o, s₂, hsteps, -, hend, hq9⟩ := Steps.callFree (hM H.size) p X₁.admits X₁.cas X₁.clock (acts := []) hfrm happ hPc9 trivial
  have hq' : k_TQ D cl tys E w' (va_A w H.size) rm.cells rm.slots (Value.ref b :: As).toArray ((T.setVm vm₁).calling (F0 m pc ls rest) mk (Value.ref b :: As).toArray) o s₂ := hq9
  obtain ⟨q9, ce, L, rfl, ⟨hP1, hK1, hD1, hz, hk⟩, ⟨hce, hcv, hcl⟩, hW2, hsm, hL⟩ := hq'
  have hh9 : ((T.setVm vm₁).calling (F0 m pc ls rest) mk (Value.ref b :: As).toArray).heap = H := hT
  rw [hh9] at hz hk
  rw [State.frames_setTop' _ X₁.here.top] at hend
  have htl : (T.setVm vm₁).frames.tail = below := X₁.tail
  rw [htl] at hend
  obtain ⟨T', X', -, -, ht⟩ := X₁.outOfThrown (g := F0 m pc ls rest) rfl hend hW2 hsm
  have e1 : T'.heap = s₂.heap := by rw [ht]; simp [State.pushFrame, State.setFrames, State.setTop, State.modifyTopJava]
  rw [← e1] at hP1 hz hk hce
  obtain ⟨hPj, hDj⟩ := va_join (wr := wr) (w1 := w') hP hD isC isR hC hR hn hdis hk hFc hP1 hD1
  have hcl9 : s.vm.findClass E = some ce.cls := by
    have h9 : (T.setVm vm₁).vm.findClass E = some ce.cls := hcl
    rw [X₁.warmed.alike.findClass] at h9
    exact h9
  obtain ⟨t2, a1, b1⟩ := kk q9 ce T'.heap (locs ++ L) (hPj.sub isO (k_fm hO)) (hDj.sub isO hnO hO) ⟨Nat.le_trans hS.1 hz, fun q h1 h2 => by rw [hk q (Nat.lt_of_lt_of_le h1 hS.1) (fun z => h2 (hFc q z))]; exact hS.2.1 q h1 h2, fun q hq => by
      rcases List.mem_append.mp hq with h | h
      · exact hS.2.2 q h
      · exact hFc _ (hL q h)⟩ hce hcv hcl9 T' rfl X'
  refine ⟨t2, ?_, b1⟩
  refine hstep₁ _ fun acts => ?_
  rw [doInvoke_state]
  rw [← ht] at a1
  exact hsteps.trans a1
end Rows
end KT
end
section
/-! ===== methods with an exception table of their own ===== -/
section KH
def k_hh (hh : List (Nat × Nat × Nat × Nat)) : List ExceptionTableEntry := hh.map fun q => ⟨q.1, q.2.1, q.2.2.1, q.2.2.2⟩
theorem k_hh_of : ∀ (L : List ExceptionTableEntry) {hh : List (Nat × Nat × Nat × Nat)}, L.map (fun h => (h.startPc, h.endPc, h.handlerPc, h.catchType)) = hh → L = k_hh hh := by
  intro L hh h
  subst h
  unfold k_hh
  rw [List.map_map]
  exact (List.map_id L).symm
theorem k_ofH {l : Launch} {y : MethodName} {ws : List Cond} {rm : Room} {D : va_G} {cl : List vw_C} {tys : List (ClassId × FieldType)} {av : List Value} {w w' : va_W} {rv : Option Value} {cc : ByteArray} {maxL : Nat} {ret : Option FieldType} {hh : List (Nat × Nat × Nat × Nat)}
    (hy : plainName y.cls = true) (hw : ws = Cond.codeWith y cc maxL ret hh :: wsA) (hlen : (lg_sl av).length ≤ maxL)
    (body : ∀ (p : Program) (e : Env) (s : State) (m : MethodId) (below : List Frame) (meth : Method) (c : Code) (A : Nat → Prop) (ls : Array Slot), p.tables.exec = Jvm.exec → c.code = cc → meth.sig.returnType = ret → meth.locks = false → c.maxLocals = maxL → s.vm.findClass y.cls = some m.cls → (∀ x ∈ wsA, x.before av.toArray s = true) → (∀ q : Nat, s.heap.size ≤ q → A q) →
      va_P D cl w s.heap → va_D A w → va_K D cl tys s → k_F A s → lv_has ls maxL (lv_args 0 av) → va_S A s.heap s.heap [] → c.exceptionTable.toList = k_hh hh →
      W p l e rm s m av.toArray below meth c s.heap [] 0 0 (MQ below (k_Q D cl tys rv w' A) av.toArray s rm.cells rm.slots A) (F0 m 0 ls [])) : k_M l y ws rm D cl tys av w rv w' := by
  intro sz
  refine va_MetW (cc := cc) (maxL := maxL) (ret := ret) (hh := hh) hy hw ?_
  intro p e s m args below meth c s₁ B hml hv
  obtain ⟨rfl, hsz, hP, hK, hD0, hF⟩ := hv
  subst hsz
  have hl := lv_entry av (n := maxL) hlen
  have hts := atoms_spec (ws := ws) B.pre
  have ht : c.exceptionTable.toList = k_hh hh := by
    obtain ⟨m9, meth9, c9, hn9, h1, h2, -, -, h5, -⟩ := Cond.codeWith_spec (hts _ (by rw [hw]; exact List.mem_cons_self))
    cases B.named.symm.trans hn9
    cases B.method.symm.trans h1
    cases (Stand.of_body B).code.symm.trans h2
    exact k_hh_of _ h5
  rw [lg_entry_eq]
  exact body p e s m below meth c (va_A w s.heap.size) _ B.exec B.bytes B.returns B.notSynchronized hml (findClass_of_methodNamed B.named) (fun x hx => hts x (by rw [hw]; exact List.mem_cons_of_mem _ hx)) (fun q h => Or.inr h) hP hD0.self hK hF hl va_S.rf ht
section Rows
variable {p : Program} {l : Launch} {e : Env} {R : Room} {s : State} {m : MethodId} {args : Array Value} {below : List Frame} {meth : Method} {c : Code} {H : Heap} {locs : List Loc} {cells slots : Nat} {Q : State → Prop}
variable {cc : ByteArray} {pc : Nat} {ls : Array Slot} {rest st0 st1 : List Value} {D : va_G} {cl : List vw_C} {A : Nat → Prop} {tys : List (ClassId × FieldType)} {w w' wr W0 W1 : va_W} {rv : Option Value}
variable {y : MethodName} {bytes : ByteArray} {maxL nL n index : Nat} {ret : Option FieldType} {wsM Ts : List Cond} {rm : Room} {own C host : String} {b : Nat} {As : List Value} {hh : List (Nat × Nat × Nat × Nat)}
/-- what a call of a method with a table asks -/
def k_CW (R : Room) (own : String) (index : Nat) (y : MethodName) (bytes : ByteArray) (maxL : Nat) (ret : Option FieldType) (hh : List (Nat × Nat × Nat × Nat)) (wsM : List Cond) (rm : Room) (n : Nat) : Prop :=
  (rm.frames + 1 ≤ R.frames ∧ 8 + (maxL + 11) + rm.locals ≤ R.locals) ∧ wsM = Cond.codeWith y bytes maxL ret hh :: wsA ∧ Cond.codeWith y bytes maxL ret hh ∈ wsA ∧ Cond.methodLink own index y ∈ wsA ∧ Cond.initialized y.cls ∈ wsA ∧
  (y.cls ≠ "java/lang/invoke/MethodHandle" ∧ y.cls ≠ "java/lang/invoke/VarHandle" ∧ (parseMethodDescriptor y.desc).map (fun d => d.parameters.length) = some n)
theorem k_backW {w : va_W} {sz : Nat} {av : List Value} (hM : k_M l y wsM rm D cl tys av w rv w') (cw : k_CW R own index y bytes maxL ret hh wsM rm n) (hts : ∀ x ∈ wsA, x.before args s = true) :
    Back l R p e below s args y 3 8 (PreOf R rm.cells rm.slots (k_Pc D cl tys av w sz)) (PostOf (k_Q D cl tys rv w' (va_A w sz)) rm.cells rm.slots (va_A w sz)) := by
  obtain ⟨⟨h1, h2⟩, h3, h4, h5, h6, h7⟩ := cw
  refine va_backW (hh := hh) (bytes := bytes) (maxL := maxL) (ret := ret) (hM sz) k_blind rfl rfl h1 h2 ?_ (by rw [h3]; exact List.mem_cons_self) (fun a' U hW => word_at hW (wa_good _ h6) (hts _ h6))
  intro x hx a' U hW
  have hm : x ∈ wsA := by
    rw [h3] at hx
    rcases List.mem_cons.mp hx with rfl | hx <;> assumption
  exact word_at hW (wa_good x hm) (hts x hm)
theorem k_len {sig : MethodDescriptor} (h : (parseMethodDescriptor y.desc).map (fun d => d.parameters.length) = some n) (h1 : parseMethodDescriptor y.desc = some sig) : n = sig.parameters.length := by
  rw [h1] at h
  exact (Option.some.inj h).symm
theorem k_runVW (hx : p.tables.exec = Jvm.exec) (hb : c.code = cc) (hml : c.maxLocals = nL) (ho : s.vm.findClass own = some m.cls) (hts : ∀ x ∈ wsA, x.before args s = true) (hM : k_M l y wsM rm D cl tys (.ref b :: As) w rv w') (cw : k_CW R own index y bytes maxL ret hh wsM rm n) (hin : Cond.instanceMethod y ∈ wsA) (hse : Cond.selects C y y ∈ wsA)
    (hrecv : ∃ cell : Cell, H[b]? = some cell ∧ cell.vm.isStatics = false ∧ s.vm.findClass C = some cell.cls) (hPc : ∀ U : State, U.heap = H → s.WarmedH U.vm → k_Pc D cl tys (.ref b :: As) w H.size (Value.ref b :: As).toArray U)
    (hn : As.length = n) (hsize : ls.size = nL) (hW : 2 * (F0 m pc ls rest).monitorRoom + (rest.map fun v => v.category).sum ≤ 8) (hdg : decode cc pc = .ok (.invokevirtual index, 3)) (hf : cells + rm.cells ≤ R.cells ∧ slots + rm.slots ≤ R.slots) :
    va_Run p l e R s m args below meth c H locs cells slots rm.cells rm.slots (F0 m pc ls (As.reverse ++ .ref b :: rest)) rest (k_Q D cl tys rv w' (va_A w H.size) (Value.ref b :: As).toArray) (va_A w H.size) := by
  have hK := k_backW (p := p) (e := e) (below := below) (sz := H.size) hM cw hts
  obtain ⟨-, -, hcode, hl, hini, hy1, hy2, hlen⟩ := cw
  obtain ⟨cellB, hcB, hoB, hclB⟩ := hrecv
  intro T hT X
  obtain ⟨mk, methM, hnamed, hmethM, hstM, habM⟩ := Cond.instanceMethod_spec (hts _ hin)
  obtain ⟨m9, methM', cM, hn9, hmethM', -, -, -, -, -, -, hsigM⟩ := Cond.codeWith_spec (hts _ hcode)
  cases hnamed.symm.trans hn9
  cases hmethM.symm.trans hmethM'
  obtain ⟨c2, r2, m2, q1, q2, q3, q4, kP, hkP, hkPi⟩ := Cond.selects_spec (hts _ hse)
  cases hclB.symm.trans q1
  cases (State.methodFound?_of_named hnamed ⟨hy1, hy2⟩).symm.trans q2
  cases hnamed.symm.trans q3
  have hselP : selectMethod e.platform s.vm cellB.cls mk = .method mk := by rw [Launch.admits_selectMethod X.admits]; exact q4
  obtain ⟨vm₁, X₁, hstep₁⟩ := X.invokevirtual hx ho (hts _ hl) hnamed hmethM hstM hkP hkPi ⟨hy1, hy2⟩ (a := b) (cell := cellB) (by rw [hT]; exact hcB)
    (fun z h => by rw [h] at hoB; cases hoB) hselP hmethM habM hkP hkPi (g := F0 m pc ls (As.reverse ++ .ref b :: rest)) rfl (argsL := As) (rest := rest) (by rw [hn]; exact k_len hlen hsigM) rfl (by rw [hb]; exact hdg)
  obtain ⟨v, ⟨U', l2, c2, s2⟩, X', ⟨g', mk', t, L, e1, e2, hq, h1, hL, h2, h3⟩, hsteps⟩ := hK m meth c ⟨T.setVm vm₁, locs, cells, slots⟩ (F0 m pc ls rest) (.invokevirtual index) mk (Value.ref b :: As).toArray X₁ rfl (hsize.trans hml.symm) (by rw [hb]; exact hdg) hW (X₁.named hnamed) ⟨hf.1, hf.2, hPc (T.setVm vm₁) hT X₁.warmed⟩
  dsimp only [Pt.U, Pt.locs, Pt.cells, Pt.slots] at X' e1 e2 h1 h2 h3 hsteps
  subst h1; subst h2; subst h3
  exact ⟨v, (T.setVm vm₁).calling g' mk' (Value.ref b :: As).toArray, t, U', L, hT, X', hL, e1, e2, hq, fun target h => hstep₁ _ fun acts => by rw [doInvoke_state]; exact hsteps.trans h⟩
theorem k_runSW (hx : p.tables.exec = Jvm.exec) (hb : c.code = cc) (hml : c.maxLocals = nL) (ho : s.vm.findClass own = some m.cls) (hts : ∀ x ∈ wsA, x.before args s = true) (hM : k_M l y wsM rm D cl tys As w rv w') (cw : k_CW R own index y bytes maxL ret hh wsM rm n) (hstt : Cond.static y ∈ wsA)
    (hPc : ∀ U : State, U.heap = H → s.WarmedH U.vm → k_Pc D cl tys As w H.size As.toArray U)
    (hn : As.length = n) (hsize : ls.size = nL) (hW : 2 * (F0 m pc ls rest).monitorRoom + (rest.map fun v => v.category).sum ≤ 8) (hdg : decode cc pc = .ok (.invokestatic index, 3)) (hf : cells + rm.cells ≤ R.cells ∧ slots + rm.slots ≤ R.slots) :
    va_Run p l e R s m args below meth c H locs cells slots rm.cells rm.slots (F0 m pc ls (As.reverse ++ rest)) rest (k_Q D cl tys rv w' (va_A w H.size) As.toArray) (va_A w H.size) := by
  have hK := k_backW (p := p) (e := e) (below := below) (sz := H.size) hM cw hts
  obtain ⟨-, -, hcode, hl, hini, hy1, hy2, hlen⟩ := cw
  intro T hT X
  obtain ⟨mk, methM, cM, hnamed, hmethM, -, -, -, -, -, -, hsigM⟩ := Cond.codeWith_spec (hts _ hcode)
  have hstatic : methM.isStatic = true := Cond.static_spec hnamed hmethM (hts _ hstt)
  obtain ⟨kP, hkP, -⟩ := className_of_methodNamed hnamed
  have hinitP : kP.init = .initialized := Cond.initialized_spec (findClass_of_methodNamed hnamed) hkP (hts _ hini)
  obtain ⟨vm₁, X₁, hstep₁⟩ := X.invokestatic hx ho (hts _ hl) hnamed hmethM hstatic hkP hinitP ⟨hy1, hy2⟩ (g := F0 m pc ls (As.reverse ++ rest)) rfl (argsL := As) (rest := rest) (by rw [hn]; exact k_len hlen hsigM) rfl (by rw [hb]; exact hdg)
  obtain ⟨v, ⟨U', l2, c2, s2⟩, X', ⟨g', mk', t, L, e1, e2, hq, h1, hL, h2, h3⟩, hsteps⟩ := hK m meth c ⟨T.setVm vm₁, locs, cells, slots⟩ (F0 m pc ls rest) (.invokestatic index) mk As.toArray X₁ rfl (hsize.trans hml.symm) (by rw [hb]; exact hdg) hW (X₁.named hnamed) ⟨hf.1, hf.2, hPc (T.setVm vm₁) hT X₁.warmed⟩
  dsimp only [Pt.U, Pt.locs, Pt.cells, Pt.slots] at X' e1 e2 h1 h2 h3 hsteps
  subst h1; subst h2; subst h3
  exact ⟨v, (T.setVm vm₁).calling g' mk' As.toArray, t, U', L, hT, X', hL, e1, e2, hq, fun target h => hstep₁ _ fun acts => by rw [doInvoke_state]; exact hsteps.trans h⟩
theorem k_VW {ci : Nat} {fs : List Value} {q : vw_C} (hx : p.tables.exec = Jvm.exec) (hb : c.code = cc) (hml : c.maxLocals = nL) (ho : s.vm.findClass own = some m.cls) (hts : ∀ x ∈ wsA, x.before args s = true) (hM : k_M l y wsM rm D cl tys (.ref b :: As) w rv w') (cw : k_CW R own index y bytes maxL ret hh wsM rm n) (hin : Cond.instanceMethod y ∈ wsA) (hse : Cond.selects C y y ∈ wsA)
    (hK : va_K D cl tys s) (hF : k_F A s) (hP : va_P D cl W0 H) (hD : va_D A W0) (hS : va_S A s.heap H locs) (hA : ∀ q : Nat, s.heap.size ≤ q → A q)
    (isC isR isO : List Nat) (hC : isC.map (fun i => W0[i]?) = w.map some) (hR : isR.map (fun i => W0[i]?) = wr.map some) (hnC : va_nd isC = true) (hn : va_nd isR = true) (hdis : ∀ i ∈ isR, i ∉ isC) (hO : isO.map (fun i => (wr ++ w')[i]?) = W1.map some) (hnO : va_nd isO = true)
    (he : w[0]? = some (b, .inr (ci, fs))) (hc : cl[ci]? = some q) (hq : q.1 = C) (hlen : As.length = n) (hsize : ls.size = nL) (hst : st0 = As.reverse ++ .ref b :: rest) (hW : (rest.map fun v => v.category).sum ≤ 8) (hdg : decode cc pc = .ok (.invokevirtual index, 3)) (hf : cells + rm.cells ≤ R.cells ∧ slots + rm.slots ≤ R.slots) (hst1 : rv.toList ++ rest = st1)
    (kk : ∀ (H1 : Heap) (locs1 : List Loc), va_P D cl W1 H1 → va_D A W1 → va_S A s.heap H1 locs1 → W p l e R s m args below meth c H1 locs1 (cells + rm.cells) (slots + rm.slots) Q (F0 m (pc + 3) ls st1)) : W p l e R s m args below meth c H locs cells slots Q (F0 m pc ls st0) := by
  have hPc := hP.sub isC (k_fm hC)
  have hDc := hD.sub isC hnC hC
  have hFc := va_free (wc := w) hD hS hA isC hC
  subst hst; subst hq
  exact k_go (k_runVW hx hb hml ho hts hM cw hin hse (va_recv hK hPc hc he) (fun U hU hW => ⟨rfl, by rw [hU], by rw [hU]; exact hPc, va_K.moved hW.alike hK, hDc.weaken (fun _ _ _ _ => trivial), k_F.go hF hS hFc hU hW (k_ns hPc)⟩) hlen hsize (lv_room hW) hdg hf) hP hD hS hA isC isR isO hC hR hn hdis hO hnO hst1 kk
theorem k_SW (hx : p.tables.exec = Jvm.exec) (hb : c.code = cc) (hml : c.maxLocals = nL) (ho : s.vm.findClass own = some m.cls) (hts : ∀ x ∈ wsA, x.before args s = true) (hM : k_M l y wsM rm D cl tys As w rv w') (cw : k_CW R own index y bytes maxL ret hh wsM rm n) (hstt : Cond.static y ∈ wsA)
    (hK : va_K D cl tys s) (hF : k_F A s) (hP : va_P D cl W0 H) (hD : va_D A W0) (hS : va_S A s.heap H locs) (hA : ∀ q : Nat, s.heap.size ≤ q → A q)
    (isC isR isO : List Nat) (hC : isC.map (fun i => W0[i]?) = w.map some) (hR : isR.map (fun i => W0[i]?) = wr.map some) (hnC : va_nd isC = true) (hn : va_nd isR = true) (hdis : ∀ i ∈ isR, i ∉ isC) (hO : isO.map (fun i => (wr ++ w')[i]?) = W1.map some) (hnO : va_nd isO = true)
    (hlen : As.length = n) (hsize : ls.size = nL) (hst : st0 = As.reverse ++ rest) (hW : (rest.map fun v => v.category).sum ≤ 8) (hdg : decode cc pc = .ok (.invokestatic index, 3)) (hf : cells + rm.cells ≤ R.cells ∧ slots + rm.slots ≤ R.slots) (hst1 : rv.toList ++ rest = st1)
    (kk : ∀ (H1 : Heap) (locs1 : List Loc), va_P D cl W1 H1 → va_D A W1 → va_S A s.heap H1 locs1 → W p l e R s m args below meth c H1 locs1 (cells + rm.cells) (slots + rm.slots) Q (F0 m (pc + 3) ls st1)) : W p l e R s m args below meth c H locs cells slots Q (F0 m pc ls st0) := by
  have hPc := hP.sub isC (k_fm hC)
  have hDc := hD.sub isC hnC hC
  have hFc := va_free (wc := w) hD hS hA isC hC
  subst hst
  exact k_go (k_runSW hx hb hml ho hts hM cw hstt (fun U hU hW => ⟨rfl, by rw [hU], by rw [hU]; exact hPc, va_K.moved hW.alike hK, hDc.weaken (fun _ _ _ _ => trivial), k_F.go hF hS hFc hU hW (k_ns hPc)⟩) hlen hsize (lv_room hW) hdg hf) hP hD hS hA isC isR isO hC hR hn hdis hO hnO hst1 kk
end Rows
end KH
end
section
def exC : List String := ["java/lang/RuntimeException", "java/lang/Exception"]
theorem at_PT_32 : ∀ x ∈ Bundle.ownAtoms RPT 32 "java/lang/IllegalStateException" exC, x ∈ wsA ∨ x = .castable "java/lang/IllegalStateException" "java/lang/IllegalStateException" ∨ x = .laysStatic Bundle.tN "UNASSIGNED_STACK" Bundle.steD ∨ x = .laysStatic Bundle.tN "SUPPRESSED_SENTINEL" Bundle.listD ∨ x = .isRef (.static Bundle.tN "UNASSIGNED_STACK" Bundle.steD) ∨ x = .isRef (.static Bundle.tN "SUPPRESSED_SENTINEL" Bundle.listD) ∨ x = .declares (Bundle.initS "java/lang/RuntimeException") ∨ x = .declares (Bundle.initS "java/lang/Exception") ∨ x = .declares (Bundle.initS Bundle.tN) := by decide +kernel
theorem at_PT_39 : ∀ x ∈ Bundle.ownAtoms RPT 39 "java/lang/IllegalArgumentException" exC, x ∈ wsA ∨ x = .castable "java/lang/IllegalArgumentException" "java/lang/IllegalArgumentException" ∨ x = .laysStatic Bundle.tN "UNASSIGNED_STACK" Bundle.steD ∨ x = .laysStatic Bundle.tN "SUPPRESSED_SENTINEL" Bundle.listD ∨ x = .isRef (.static Bundle.tN "UNASSIGNED_STACK" Bundle.steD) ∨ x = .isRef (.static Bundle.tN "SUPPRESSED_SENTINEL" Bundle.listD) ∨ x = .declares (Bundle.initS "java/lang/RuntimeException") ∨ x = .declares (Bundle.initS "java/lang/Exception") ∨ x = .declares (Bundle.initS Bundle.tN) := by decide +kernel
theorem at_PT_44 : ∀ x ∈ Bundle.ownAtoms RPT 44 "java/lang/IndexOutOfBoundsException" exC, x ∈ wsA ∨ x = .castable "java/lang/IndexOutOfBoundsException" "java/lang/IndexOutOfBoundsException" ∨ x = .laysStatic Bundle.tN "UNASSIGNED_STACK" Bundle.steD ∨ x = .laysStatic Bundle.tN "SUPPRESSED_SENTINEL" Bundle.listD ∨ x = .isRef (.static Bundle.tN "UNASSIGNED_STACK" Bundle.steD) ∨ x = .isRef (.static Bundle.tN "SUPPRESSED_SENTINEL" Bundle.listD) ∨ x = .declares (Bundle.initS "java/lang/RuntimeException") ∨ x = .declares (Bundle.initS "java/lang/Exception") ∨ x = .declares (Bundle.initS Bundle.tN) := by decide +kernel
theorem at_PT_49 : ∀ x ∈ Bundle.ownAtoms RPT 49 "java/lang/ArithmeticException" exC, x ∈ wsA ∨ x = .castable "java/lang/ArithmeticException" "java/lang/ArithmeticException" ∨ x = .laysStatic Bundle.tN "UNASSIGNED_STACK" Bundle.steD ∨ x = .laysStatic Bundle.tN "SUPPRESSED_SENTINEL" Bundle.listD ∨ x = .isRef (.static Bundle.tN "UNASSIGNED_STACK" Bundle.steD) ∨ x = .isRef (.static Bundle.tN "SUPPRESSED_SENTINEL" Bundle.listD) ∨ x = .declares (Bundle.initS "java/lang/RuntimeException") ∨ x = .declares (Bundle.initS "java/lang/Exception") ∨ x = .declares (Bundle.initS Bundle.tN) := by decide +kernel
theorem at_PT_54 : ∀ x ∈ Bundle.ownAtoms RPT 54 "java/lang/UnsupportedOperationException" exC, x ∈ wsA ∨ x = .castable "java/lang/UnsupportedOperationException" "java/lang/UnsupportedOperationException" ∨ x = .laysStatic Bundle.tN "UNASSIGNED_STACK" Bundle.steD ∨ x = .laysStatic Bundle.tN "SUPPRESSED_SENTINEL" Bundle.listD ∨ x = .isRef (.static Bundle.tN "UNASSIGNED_STACK" Bundle.steD) ∨ x = .isRef (.static Bundle.tN "SUPPRESSED_SENTINEL" Bundle.listD) ∨ x = .declares (Bundle.initS "java/lang/RuntimeException") ∨ x = .declares (Bundle.initS "java/lang/Exception") ∨ x = .declares (Bundle.initS Bundle.tN) := by decide +kernel
theorem at_PD_61 : ∀ x ∈ Bundle.ownAtoms RPD 61 "java/lang/IllegalArgumentException" exC, x ∈ wsA ∨ x = .castable "java/lang/IllegalArgumentException" "java/lang/IllegalArgumentException" ∨ x = .laysStatic Bundle.tN "UNASSIGNED_STACK" Bundle.steD ∨ x = .laysStatic Bundle.tN "SUPPRESSED_SENTINEL" Bundle.listD ∨ x = .isRef (.static Bundle.tN "UNASSIGNED_STACK" Bundle.steD) ∨ x = .isRef (.static Bundle.tN "SUPPRESSED_SENTINEL" Bundle.listD) ∨ x = .declares (Bundle.initS "java/lang/RuntimeException") ∨ x = .declares (Bundle.initS "java/lang/Exception") ∨ x = .declares (Bundle.initS Bundle.tN) := by decide +kernel
theorem at_PD_75 : ∀ x ∈ Bundle.ownAtoms RPD 75 "java/lang/IllegalStateException" exC, x ∈ wsA ∨ x = .castable "java/lang/IllegalStateException" "java/lang/IllegalStateException" ∨ x = .laysStatic Bundle.tN "UNASSIGNED_STACK" Bundle.steD ∨ x = .laysStatic Bundle.tN "SUPPRESSED_SENTINEL" Bundle.listD ∨ x = .isRef (.static Bundle.tN "UNASSIGNED_STACK" Bundle.steD) ∨ x = .isRef (.static Bundle.tN "SUPPRESSED_SENTINEL" Bundle.listD) ∨ x = .declares (Bundle.initS "java/lang/RuntimeException") ∨ x = .declares (Bundle.initS "java/lang/Exception") ∨ x = .declares (Bundle.initS Bundle.tN) := by decide +kernel
theorem at_PD_95 : ∀ x ∈ Bundle.ownAtoms RPD 95 "java/lang/IndexOutOfBoundsException" exC, x ∈ wsA ∨ x = .castable "java/lang/IndexOutOfBoundsException" "java/lang/IndexOutOfBoundsException" ∨ x = .laysStatic Bundle.tN "UNASSIGNED_STACK" Bundle.steD ∨ x = .laysStatic Bundle.tN "SUPPRESSED_SENTINEL" Bundle.listD ∨ x = .isRef (.static Bundle.tN "UNASSIGNED_STACK" Bundle.steD) ∨ x = .isRef (.static Bundle.tN "SUPPRESSED_SENTINEL" Bundle.listD) ∨ x = .declares (Bundle.initS "java/lang/RuntimeException") ∨ x = .declares (Bundle.initS "java/lang/Exception") ∨ x = .declares (Bundle.initS Bundle.tN) := by decide +kernel
end
section
/-! ===== a part asked: what it answers, and what it leaves ===== -/
def f_apA (an sm : Nat → Int64) (fl : Nat → Int32) (k : Nat) (n : Int32) (v : Int64) : Int64 := if fl k = 0 then an k + 3 * n.toInt64 + (sm k + v) else (-100 - fl k).toInt64
def f_apS (sm : Nat → Int64) (fl : Nat → Int32) (k : Nat) (v : Int64) : Nat → Int64 := if fl k = 0 then vp_updL sm k (sm k + v) else sm
def f_apT (tf : Nat → Int64) (fl : Nat → Int32) (k : Nat) (n : Int32) : Nat → Int64 := if fl k = 0 then vp_updL tf 0 (tf 0 + 1) else vp_updL (vp_updL (vp_updL (vp_updL tf 4 (tf 4 + 1)) 5 ((fl k).toInt64)) 6 ((nI k).toInt64)) 7 (n.toInt64)
theorem f_back (sm : Nat → Int64) (k : Nat) (x : Int64) : vp_updL (vp_updL sm k x) k (sm k) = sm := by
  funext j
  unfold vp_updL
  by_cases h : j = k
  · rw [if_pos h, h]
  · rw [if_neg h, if_neg h]
theorem f_isPart_or (c : Int32) : f_isPart c = 0 ∨ ∃ k : Nat, k < 12 ∧ c = nI k := by
  unfold f_isPart
  by_cases h : c < 0
  · left; rw [if_pos h]
  · rw [if_neg h]
    by_cases h1 : 12 ≤ c
    · left; rw [if_pos h1]
    · right
      have h2 : (0 : Int) ≤ c.toInt := by
        have h9 : ¬ c.toInt < (0 : Int32).toInt := fun h9 => h (Int32.lt_iff_toInt_lt.mpr h9)
        have e9 : (0 : Int32).toInt = 0 := by decide
        omega
      have h3 : c.toInt < 12 := by
        have h9 : ¬ (12 : Int32).toInt ≤ c.toInt := fun h9 => h1 (Int32.le_iff_toInt_le.mpr h9)
        have e9 : (12 : Int32).toInt = 12 := by decide
        omega
      refine ⟨c.toInt.toNat, by omega, ?_⟩
      apply Int32.toInt.inj
      rw [nI_toInt (by omega)]
      omega
theorem f_isPart_nI {k : Nat} (h : k < 12) : f_isPart (nI k) = 1 := by
  have h0 : ¬ (nI k < 0) := fun h9 => absurd ((nI_ltI (a := k) (b := 0) (by omega) (by decide)).mp h9) (by omega)
  have h1 : ¬ (12 ≤ nI k) := fun h9 => absurd ((nI_leI (a := 12) (b := k) (by decide) (by omega)).mp h9) (by omega)
  unfold f_isPart
  rw [if_neg h0, if_neg h1]
/-- what becomes of a call: 0 it goes to its part, else the refusal's reason -/
def f_cd (md : Nat → Int32) (kn : Nat → Int64) (c n : Int32) : Nat := if f_isPart c = 0 then 1 else if f_wasMade md (c.toNatClampNeg % 8) n = 0 then 2 else if f_isKnown md kn (c.toNatClampNeg % 8) n = 0 then 3 else 0
def f_aA (md : Nat → Int32) (kn an sm : Nat → Int64) (fl : Nat → Int32) (c n : Int32) (v : Int64) : Int64 := if f_cd md kn c n = 0 then f_apA an sm fl c.toNatClampNeg n v else (-nI (f_cd md kn c n)).toInt64
def f_aS (md : Nat → Int32) (kn sm : Nat → Int64) (fl : Nat → Int32) (c n : Int32) (v : Int64) : Nat → Int64 := if f_cd md kn c n = 0 then f_apS sm fl c.toNatClampNeg v else sm
def f_aF (md : Nat → Int32) (kn : Nat → Int64) (fl : Nat → Int32) (c n : Int32) : Nat → Int32 := if f_cd md kn c n = 0 then upd fl c.toNatClampNeg 0 else fl
def f_aT (md : Nat → Int32) (kn tf : Nat → Int64) (fl : Nat → Int32) (c n : Int32) : Nat → Int64 := if f_cd md kn c n = 0 then f_apT tf fl c.toNatClampNeg n else vp_updL tf (f_cd md kn c n) (tf (f_cd md kn c n) + 1)
abbrev rm_PD_isDesk : Room := { frames := 0, cells := 0, slots := 0, locals := 0 }
set_option maxHeartbeats 4000000 in
set_option maxRecDepth 100000 in
theorem k_PD_isDesk (l : Launch) (dC : Nat → ClassId) (dI : Nat → Nat → Nat) (cI cJ cG cZ : ClassId) (x : Int32) : k_M l yPD_isDesk wsPD_isDesk rm_PD_isDesk (dC, dI) vwCl [(cI, .int), (cJ, .long), (cG, .array .long), (cZ, .boolean)] [.int x] [] (some (.int (f_isDesk x))) [] := by
  refine k_of (cc := cPD_isDesk) (maxL := 1) (ret := (some .boolean)) (by decide) rfl (Nat.le_of_ble_eq_true rfl) ?_
  intro p e s m below meth c A ls hx hb hr hlocks hml hown hts hA hP hD hK hF hl hS
  have hown : s.vm.findClass RPD = some m.cls := hown
  have hl : lv_has ls 1 [(0, .int x)] := hl
  refine lv_iload_n hx hb dPD_isDesk_0 rfl (lv_at hl 0 rfl) ?_
  refine lv_if_eq (tgt := 9) hx hb dPD_isDesk_1 (by decide) (fun c_1 => ?_) (fun c_1 => ?_)
  · refine lv_iconst (v := 1) hx hb dPD_isDesk_9 (by decide) ?_
    refine lv_goto (tgt := 14) hx hb dPD_isDesk_10 (by decide) ?_
    exact k_zret hx hb hr hlocks rfl hP hK hD hS (by unfold f_isDesk; rw [if_pos c_1]) dPD_isDesk_14 ⟨Nat.le_of_ble_eq_true rfl, Nat.le_of_ble_eq_true rfl⟩
  · refine lv_iload_n hx hb dPD_isDesk_4 rfl (lv_at hl 0 rfl) ?_
    refine lv_iconst (v := 1) hx hb dPD_isDesk_5 (by decide) ?_
    refine lv_icmp_ne (tgt := 13) hx hb dPD_isDesk_6 (by decide) (fun c_2 => ?_) (fun c_2 => ?_)
    · refine lv_iconst (v := 0) hx hb dPD_isDesk_13 (by decide) ?_
      exact k_zret hx hb hr hlocks rfl hP hK hD hS (by unfold f_isDesk; rw [if_neg c_1, if_neg c_2]) dPD_isDesk_14 ⟨Nat.le_of_ble_eq_true rfl, Nat.le_of_ble_eq_true rfl⟩
    · refine lv_iconst (v := 1) hx hb dPD_isDesk_9 (by decide) ?_
      refine lv_goto (tgt := 14) hx hb dPD_isDesk_10 (by decide) ?_
      exact k_zret hx hb hr hlocks rfl hP hK hD hS (by unfold f_isDesk; rw [if_neg c_1, if_pos c_2]) dPD_isDesk_14 ⟨Nat.le_of_ble_eq_true rfl, Nat.le_of_ble_eq_true rfl⟩

abbrev rm_PD_isKind : Room := { frames := 0, cells := 0, slots := 0, locals := 0 }
set_option maxHeartbeats 4000000 in
set_option maxRecDepth 100000 in
theorem k_PD_isKind (l : Launch) (dC : Nat → ClassId) (dI : Nat → Nat → Nat) (cI cJ cG cZ : ClassId) (x : Int32) : k_M l yPD_isKind wsPD_isKind rm_PD_isKind (dC, dI) vwCl [(cI, .int), (cJ, .long), (cG, .array .long), (cZ, .boolean)] [.int x] [] (some (.int (f_isKind x))) [] := by
  refine k_of (cc := cPD_isKind) (maxL := 1) (ret := (some .boolean)) (by decide) rfl (Nat.le_of_ble_eq_true rfl) ?_
  intro p e s m below meth c A ls hx hb hr hlocks hml hown hts hA hP hD hK hF hl hS
  have hown : s.vm.findClass RPD = some m.cls := hown
  have hl : lv_has ls 1 [(0, .int x)] := hl
  refine lv_iload_n hx hb dPD_isKind_0 rfl (lv_at hl 0 rfl) ?_
  refine lv_if_lt (tgt := 14) hx hb dPD_isKind_1 (by decide) (fun c_1 => ?_) (fun c_1 => ?_)
  · refine lv_iconst (v := 0) hx hb dPD_isKind_14 (by decide) ?_
    exact k_zret hx hb hr hlocks rfl hP hK hD hS (by unfold f_isKind; rw [if_pos c_1]) dPD_isKind_15 ⟨Nat.le_of_ble_eq_true rfl, Nat.le_of_ble_eq_true rfl⟩
  · refine lv_iload_n hx hb dPD_isKind_4 rfl (lv_at hl 0 rfl) ?_
    refine lv_bipush (v := 8) hx hb dPD_isKind_5 (by decide) ?_
    refine lv_icmp_ge (tgt := 14) hx hb dPD_isKind_7 (by decide) (fun c_2 => ?_) (fun c_2 => ?_)
    · refine lv_iconst (v := 0) hx hb dPD_isKind_14 (by decide) ?_
      exact k_zret hx hb hr hlocks rfl hP hK hD hS (by unfold f_isKind; rw [if_neg c_1, if_pos c_2]) dPD_isKind_15 ⟨Nat.le_of_ble_eq_true rfl, Nat.le_of_ble_eq_true rfl⟩
    · refine lv_iconst (v := 1) hx hb dPD_isKind_10 (by decide) ?_
      refine lv_goto (tgt := 15) hx hb dPD_isKind_11 (by decide) ?_
      exact k_zret hx hb hr hlocks rfl hP hK hD hS (by unfold f_isKind; rw [if_neg c_1, if_neg c_2]) dPD_isKind_15 ⟨Nat.le_of_ble_eq_true rfl, Nat.le_of_ble_eq_true rfl⟩

abbrev rm_PD_isPart : Room := { frames := 0, cells := 0, slots := 0, locals := 0 }
set_option maxHeartbeats 4000000 in
set_option maxRecDepth 100000 in
theorem k_PD_isPart (l : Launch) (dC : Nat → ClassId) (dI : Nat → Nat → Nat) (cI cJ cG cZ : ClassId) (x : Int32) : k_M l yPD_isPart wsPD_isPart rm_PD_isPart (dC, dI) vwCl [(cI, .int), (cJ, .long), (cG, .array .long), (cZ, .boolean)] [.int x] [] (some (.int (f_isPart x))) [] := by
  refine k_of (cc := cPD_isPart) (maxL := 1) (ret := (some .boolean)) (by decide) rfl (Nat.le_of_ble_eq_true rfl) ?_
  intro p e s m below meth c A ls hx hb hr hlocks hml hown hts hA hP hD hK hF hl hS
  have hown : s.vm.findClass RPD = some m.cls := hown
  have hl : lv_has ls 1 [(0, .int x)] := hl
  refine lv_iload_n hx hb dPD_isPart_0 rfl (lv_at hl 0 rfl) ?_
  refine lv_if_lt (tgt := 14) hx hb dPD_isPart_1 (by decide) (fun c_1 => ?_) (fun c_1 => ?_)
  · refine lv_iconst (v := 0) hx hb dPD_isPart_14 (by decide) ?_
    exact k_zret hx hb hr hlocks rfl hP hK hD hS (by unfold f_isPart; rw [if_pos c_1]) dPD_isPart_15 ⟨Nat.le_of_ble_eq_true rfl, Nat.le_of_ble_eq_true rfl⟩
  · refine lv_iload_n hx hb dPD_isPart_4 rfl (lv_at hl 0 rfl) ?_
    refine lv_bipush (v := 12) hx hb dPD_isPart_5 (by decide) ?_
    refine lv_icmp_ge (tgt := 14) hx hb dPD_isPart_7 (by decide) (fun c_2 => ?_) (fun c_2 => ?_)
    · refine lv_iconst (v := 0) hx hb dPD_isPart_14 (by decide) ?_
      exact k_zret hx hb hr hlocks rfl hP hK hD hS (by unfold f_isPart; rw [if_neg c_1, if_pos c_2]) dPD_isPart_15 ⟨Nat.le_of_ble_eq_true rfl, Nat.le_of_ble_eq_true rfl⟩
    · refine lv_iconst (v := 1) hx hb dPD_isPart_10 (by decide) ?_
      refine lv_goto (tgt := 15) hx hb dPD_isPart_11 (by decide) ?_
      exact k_zret hx hb hr hlocks rfl hP hK hD hS (by unfold f_isPart; rw [if_neg c_1, if_neg c_2]) dPD_isPart_15 ⟨Nat.le_of_ble_eq_true rfl, Nat.le_of_ble_eq_true rfl⟩
abbrev rm_PT_throwIfTold : Room := { frames := 6, cells := 1, slots := 6, locals := 82 }
set_option maxHeartbeats 4000000 in
set_option maxRecDepth 100000 in
theorem k_PT_throwIfTold (l : Launch) (dC : Nat → ClassId) (dI : Nat → Nat → Nat) (cI cJ cG cZ : ClassId) (h0 : Nat) (h1 : Nat) (h2 : Nat) (h3 : Nat) (an : Nat → Int64) (sm : Nat → Int64) (fl : Nat → Int32) (k : Nat) (hk : k < 12) (hf : fl k = 0) : k_M l yPT_throwIfTold wsPT_throwIfTold rm_PT_throwIfTold (dC, dI) vwCl [(cI, .int), (cJ, .long), (cG, .array .long), (cZ, .boolean)] [.ref h0, .int (nI k)] [(h0, .inr (4, [.ref h1, .ref h2, .ref h3])), (h1, .inl (cJ, 12, .inr (.inl an))), (h2, .inl (cJ, 12, .inr (.inl sm))), (h3, .inl (cI, 12, .inl fl))] none [(h0, .inr (4, [.ref h1, .ref h2, .ref h3])), (h1, .inl (cJ, 12, .inr (.inl an))), (h2, .inl (cJ, 12, .inr (.inl sm))), (h3, .inl (cI, 12, .inl (upd fl k 0)))] := by
  refine k_of (cc := cPT_throwIfTold) (maxL := 3) (ret := none) (by decide) rfl (Nat.le_of_ble_eq_true rfl) ?_
  intro p e s m below meth c A ls hx hb hr hlocks hml hown hts hA hP hD hK hF hl hS
  have hown : s.vm.findClass RPT = some m.cls := hown
  have hl : lv_has ls 3 [(0, .ref h0), (1, .int (nI k))] := hl
  refine lv_aload_n hx hb dPT_throwIfTold_0 rfl (lv_at hl 0 rfl) ?_
  refine va_get (D := (dC, dI)) (ci := 4) (v := .ref h3) (C := RPT) (T := TPT) (N := 3) hx hb hts inPT hown hK hP 0 rfl rfl 2 (by decide) (hts _ m_f_PT_18) (fun _ h9 => h9) rfl dPT_throwIfTold_1 ?_
  refine lv_iload_n hx hb dPT_throwIfTold_4 rfl (lv_at hl 1 rfl) ?_
  refine k_ild (v := fl k) hx hb hK hP 3 0 rfl rfl (j := k) rfl hk (by decide) rfl dPT_throwIfTold_5 ?_
  refine k_topi (y := 0) hf ?_
  refine lv_istore_n (lv' := [(2, .int 0), (0, .ref h0), (1, .int (nI k))]) hx hb dPT_throwIfTold_6 rfl hl (by decide) rfl (fun ls hl => ?_)
  refine lv_aload_n hx hb dPT_throwIfTold_7 rfl (lv_at hl 1 rfl) ?_
  refine va_get (D := (dC, dI)) (ci := 4) (v := .ref h3) (C := RPT) (T := TPT) (N := 3) hx hb hts inPT hown hK hP 0 rfl rfl 2 (by decide) (hts _ m_f_PT_18) (fun _ h9 => h9) rfl dPT_throwIfTold_8 ?_
  refine lv_iload_n hx hb dPT_throwIfTold_11 rfl (lv_at hl 2 rfl) ?_
  refine lv_iconst (v := 0) hx hb dPT_throwIfTold_12 (by decide) ?_
  refine k_ist (W1 := [(h0, .inr (4, [.ref h1, .ref h2, .ref h3])), (h1, .inl (cJ, 12, .inr (.inl an))), (h2, .inl (cJ, 12, .inr (.inl sm))), (h3, .inl (cI, 12, .inl (upd fl k 0)))]) hx hb hK hP hD hS 3 0 rfl rfl (j := k) rfl hk (by decide) rfl dPT_throwIfTold_13 (fun H locs hP hD hS => ?_)
  refine lv_iload_n hx hb dPT_throwIfTold_14 rfl (lv_at hl 0 rfl) ?_
  refine lv_tableOut (tgt := 98) hx hb dPT_throwIfTold_15 (by decide) (by decide) ?_
  exact k_vret hx hb hr hlocks hP hK hD hS dPT_throwIfTold_98 ⟨Nat.le_of_ble_eq_true rfl, Nat.le_of_ble_eq_true rfl⟩

set_option maxHeartbeats 4000000 in
set_option maxRecDepth 100000 in
theorem k_PT_throwIfTold_1 (l : Launch) (dC : Nat → ClassId) (dI : Nat → Nat → Nat) (cI cJ cG cZ : ClassId) (h0 : Nat) (h1 : Nat) (h2 : Nat) (h3 : Nat) (an : Nat → Int64) (sm : Nat → Int64) (fl : Nat → Int32) (k : Nat) (hk : k < 12) (hf : fl k = 1) (hlt : l.stackTraces = false) : k_T l yPT_throwIfTold wsPT_throwIfTold rm_PT_throwIfTold (dC, dI) vwCl [(cI, .int), (cJ, .long), (cG, .array .long), (cZ, .boolean)] [.ref h0, .int (nI k)] [(h0, .inr (4, [.ref h1, .ref h2, .ref h3])), (h1, .inl (cJ, 12, .inr (.inl an))), (h2, .inl (cJ, 12, .inr (.inl sm))), (h3, .inl (cI, 12, .inl fl))] "java/lang/IllegalStateException" [(h0, .inr (4, [.ref h1, .ref h2, .ref h3])), (h1, .inl (cJ, 12, .inr (.inl an))), (h2, .inl (cJ, 12, .inr (.inl sm))), (h3, .inl (cI, 12, .inl (upd fl k 0)))] := by
  refine k_tof (cc := cPT_throwIfTold) (maxL := 3) (ret := none) (by decide) rfl (Nat.le_of_ble_eq_true rfl) ?_
  intro p e s m below meth c A ls hx hb hr hlocks hml hown hts hA hP hD hK hF hl hS ht
  have hown : s.vm.findClass RPT = some m.cls := hown
  have hl : lv_has ls 3 [(0, .ref h0), (1, .int (nI k))] := hl
  refine lv_aload_n hx hb dPT_throwIfTold_0 rfl (lv_at hl 0 rfl) ?_
  refine va_get (D := (dC, dI)) (ci := 4) (v := .ref h3) (C := RPT) (T := TPT) (N := 3) hx hb hts inPT hown hK hP 0 rfl rfl 2 (by decide) (hts _ m_f_PT_18) (fun _ h9 => h9) rfl dPT_throwIfTold_1 ?_
  refine lv_iload_n hx hb dPT_throwIfTold_4 rfl (lv_at hl 1 rfl) ?_
  refine k_ild (v := fl k) hx hb hK hP 3 0 rfl rfl (j := k) rfl hk (by decide) rfl dPT_throwIfTold_5 ?_
  refine k_topi (y := 1) hf ?_
  refine lv_istore_n (lv' := [(2, .int 1), (0, .ref h0), (1, .int (nI k))]) hx hb dPT_throwIfTold_6 rfl hl (by decide) rfl (fun ls hl => ?_)
  refine lv_aload_n hx hb dPT_throwIfTold_7 rfl (lv_at hl 1 rfl) ?_
  refine va_get (D := (dC, dI)) (ci := 4) (v := .ref h3) (C := RPT) (T := TPT) (N := 3) hx hb hts inPT hown hK hP 0 rfl rfl 2 (by decide) (hts _ m_f_PT_18) (fun _ h9 => h9) rfl dPT_throwIfTold_8 ?_
  refine lv_iload_n hx hb dPT_throwIfTold_11 rfl (lv_at hl 2 rfl) ?_
  refine lv_iconst (v := 0) hx hb dPT_throwIfTold_12 (by decide) ?_
  refine k_ist (W1 := [(h0, .inr (4, [.ref h1, .ref h2, .ref h3])), (h1, .inl (cJ, 12, .inr (.inl an))), (h2, .inl (cJ, 12, .inr (.inl sm))), (h3, .inl (cI, 12, .inl (upd fl k 0)))]) hx hb hK hP hD hS 3 0 rfl rfl (j := k) rfl hk (by decide) rfl dPT_throwIfTold_13 (fun H locs hP hD hS => ?_)
  refine lv_iload_n hx hb dPT_throwIfTold_14 rfl (lv_at hl 0 rfl) ?_
  refine lv_tableIn (tgt := 48) (off := 33) hx hb dPT_throwIfTold_15 (by decide) (by decide) (by decide) (by decide) ?_
  exact k_thr (own := RPT) (names := exC) hx hb hlt hown hts (by decide +kernel) (by decide +kernel) m_cl_PT_28 m_in_IllegalStateException (List.mem_of_getElem? (i := 0) rfl) (List.mem_of_getElem? (i := 0) rfl) at_PT_32 hF hS (hl.1.trans hml.symm) dPT_throwIfTold_48 dPT_throwIfTold_51 dPT_throwIfTold_52 dPT_throwIfTold_54 dPT_throwIfTold_57 (fun x h9 => ht x _ h9) (by decide) (Nat.le_of_ble_eq_true rfl) (Nat.le_of_ble_eq_true rfl) (Nat.le_of_ble_eq_true rfl) hlocks hP hK hD (Nat.le_of_ble_eq_true rfl) (Nat.le_of_ble_eq_true rfl)

set_option maxHeartbeats 4000000 in
set_option maxRecDepth 100000 in
theorem k_PT_throwIfTold_2 (l : Launch) (dC : Nat → ClassId) (dI : Nat → Nat → Nat) (cI cJ cG cZ : ClassId) (h0 : Nat) (h1 : Nat) (h2 : Nat) (h3 : Nat) (an : Nat → Int64) (sm : Nat → Int64) (fl : Nat → Int32) (k : Nat) (hk : k < 12) (hf : fl k = 2) (hlt : l.stackTraces = false) : k_T l yPT_throwIfTold wsPT_throwIfTold rm_PT_throwIfTold (dC, dI) vwCl [(cI, .int), (cJ, .long), (cG, .array .long), (cZ, .boolean)] [.ref h0, .int (nI k)] [(h0, .inr (4, [.ref h1, .ref h2, .ref h3])), (h1, .inl (cJ, 12, .inr (.inl an))), (h2, .inl (cJ, 12, .inr (.inl sm))), (h3, .inl (cI, 12, .inl fl))] "java/lang/IllegalArgumentException" [(h0, .inr (4, [.ref h1, .ref h2, .ref h3])), (h1, .inl (cJ, 12, .inr (.inl an))), (h2, .inl (cJ, 12, .inr (.inl sm))), (h3, .inl (cI, 12, .inl (upd fl k 0)))] := by
  refine k_tof (cc := cPT_throwIfTold) (maxL := 3) (ret := none) (by decide) rfl (Nat.le_of_ble_eq_true rfl) ?_
  intro p e s m below meth c A ls hx hb hr hlocks hml hown hts hA hP hD hK hF hl hS ht
  have hown : s.vm.findClass RPT = some m.cls := hown
  have hl : lv_has ls 3 [(0, .ref h0), (1, .int (nI k))] := hl
  refine lv_aload_n hx hb dPT_throwIfTold_0 rfl (lv_at hl 0 rfl) ?_
  refine va_get (D := (dC, dI)) (ci := 4) (v := .ref h3) (C := RPT) (T := TPT) (N := 3) hx hb hts inPT hown hK hP 0 rfl rfl 2 (by decide) (hts _ m_f_PT_18) (fun _ h9 => h9) rfl dPT_throwIfTold_1 ?_
  refine lv_iload_n hx hb dPT_throwIfTold_4 rfl (lv_at hl 1 rfl) ?_
  refine k_ild (v := fl k) hx hb hK hP 3 0 rfl rfl (j := k) rfl hk (by decide) rfl dPT_throwIfTold_5 ?_
  refine k_topi (y := 2) hf ?_
  refine lv_istore_n (lv' := [(2, .int 2), (0, .ref h0), (1, .int (nI k))]) hx hb dPT_throwIfTold_6 rfl hl (by decide) rfl (fun ls hl => ?_)
  refine lv_aload_n hx hb dPT_throwIfTold_7 rfl (lv_at hl 1 rfl) ?_
  refine va_get (D := (dC, dI)) (ci := 4) (v := .ref h3) (C := RPT) (T := TPT) (N := 3) hx hb hts inPT hown hK hP 0 rfl rfl 2 (by decide) (hts _ m_f_PT_18) (fun _ h9 => h9) rfl dPT_throwIfTold_8 ?_
  refine lv_iload_n hx hb dPT_throwIfTold_11 rfl (lv_at hl 2 rfl) ?_
  refine lv_iconst (v := 0) hx hb dPT_throwIfTold_12 (by decide) ?_
  refine k_ist (W1 := [(h0, .inr (4, [.ref h1, .ref h2, .ref h3])), (h1, .inl (cJ, 12, .inr (.inl an))), (h2, .inl (cJ, 12, .inr (.inl sm))), (h3, .inl (cI, 12, .inl (upd fl k 0)))]) hx hb hK hP hD hS 3 0 rfl rfl (j := k) rfl hk (by decide) rfl dPT_throwIfTold_13 (fun H locs hP hD hS => ?_)
  refine lv_iload_n hx hb dPT_throwIfTold_14 rfl (lv_at hl 0 rfl) ?_
  refine lv_tableIn (tgt := 58) (off := 43) hx hb dPT_throwIfTold_15 (by decide) (by decide) (by decide) (by decide) ?_
  exact k_thr (own := RPT) (names := exC) hx hb hlt hown hts (by decide +kernel) (by decide +kernel) m_cl_PT_35 m_in_IllegalArgumentException (List.mem_of_getElem? (i := 1) rfl) (List.mem_of_getElem? (i := 1) rfl) at_PT_39 hF hS (hl.1.trans hml.symm) dPT_throwIfTold_58 dPT_throwIfTold_61 dPT_throwIfTold_62 dPT_throwIfTold_64 dPT_throwIfTold_67 (fun x h9 => ht x _ h9) (by decide) (Nat.le_of_ble_eq_true rfl) (Nat.le_of_ble_eq_true rfl) (Nat.le_of_ble_eq_true rfl) hlocks hP hK hD (Nat.le_of_ble_eq_true rfl) (Nat.le_of_ble_eq_true rfl)

set_option maxHeartbeats 4000000 in
set_option maxRecDepth 100000 in
theorem k_PT_throwIfTold_3 (l : Launch) (dC : Nat → ClassId) (dI : Nat → Nat → Nat) (cI cJ cG cZ : ClassId) (h0 : Nat) (h1 : Nat) (h2 : Nat) (h3 : Nat) (an : Nat → Int64) (sm : Nat → Int64) (fl : Nat → Int32) (k : Nat) (hk : k < 12) (hf : fl k = 3) (hlt : l.stackTraces = false) : k_T l yPT_throwIfTold wsPT_throwIfTold rm_PT_throwIfTold (dC, dI) vwCl [(cI, .int), (cJ, .long), (cG, .array .long), (cZ, .boolean)] [.ref h0, .int (nI k)] [(h0, .inr (4, [.ref h1, .ref h2, .ref h3])), (h1, .inl (cJ, 12, .inr (.inl an))), (h2, .inl (cJ, 12, .inr (.inl sm))), (h3, .inl (cI, 12, .inl fl))] "java/lang/IndexOutOfBoundsException" [(h0, .inr (4, [.ref h1, .ref h2, .ref h3])), (h1, .inl (cJ, 12, .inr (.inl an))), (h2, .inl (cJ, 12, .inr (.inl sm))), (h3, .inl (cI, 12, .inl (upd fl k 0)))] := by
  refine k_tof (cc := cPT_throwIfTold) (maxL := 3) (ret := none) (by decide) rfl (Nat.le_of_ble_eq_true rfl) ?_
  intro p e s m below meth c A ls hx hb hr hlocks hml hown hts hA hP hD hK hF hl hS ht
  have hown : s.vm.findClass RPT = some m.cls := hown
  have hl : lv_has ls 3 [(0, .ref h0), (1, .int (nI k))] := hl
  refine lv_aload_n hx hb dPT_throwIfTold_0 rfl (lv_at hl 0 rfl) ?_
  refine va_get (D := (dC, dI)) (ci := 4) (v := .ref h3) (C := RPT) (T := TPT) (N := 3) hx hb hts inPT hown hK hP 0 rfl rfl 2 (by decide) (hts _ m_f_PT_18) (fun _ h9 => h9) rfl dPT_throwIfTold_1 ?_
  refine lv_iload_n hx hb dPT_throwIfTold_4 rfl (lv_at hl 1 rfl) ?_
  refine k_ild (v := fl k) hx hb hK hP 3 0 rfl rfl (j := k) rfl hk (by decide) rfl dPT_throwIfTold_5 ?_
  refine k_topi (y := 3) hf ?_
  refine lv_istore_n (lv' := [(2, .int 3), (0, .ref h0), (1, .int (nI k))]) hx hb dPT_throwIfTold_6 rfl hl (by decide) rfl (fun ls hl => ?_)
  refine lv_aload_n hx hb dPT_throwIfTold_7 rfl (lv_at hl 1 rfl) ?_
  refine va_get (D := (dC, dI)) (ci := 4) (v := .ref h3) (C := RPT) (T := TPT) (N := 3) hx hb hts inPT hown hK hP 0 rfl rfl 2 (by decide) (hts _ m_f_PT_18) (fun _ h9 => h9) rfl dPT_throwIfTold_8 ?_
  refine lv_iload_n hx hb dPT_throwIfTold_11 rfl (lv_at hl 2 rfl) ?_
  refine lv_iconst (v := 0) hx hb dPT_throwIfTold_12 (by decide) ?_
  refine k_ist (W1 := [(h0, .inr (4, [.ref h1, .ref h2, .ref h3])), (h1, .inl (cJ, 12, .inr (.inl an))), (h2, .inl (cJ, 12, .inr (.inl sm))), (h3, .inl (cI, 12, .inl (upd fl k 0)))]) hx hb hK hP hD hS 3 0 rfl rfl (j := k) rfl hk (by decide) rfl dPT_throwIfTold_13 (fun H locs hP hD hS => ?_)
  refine lv_iload_n hx hb dPT_throwIfTold_14 rfl (lv_at hl 0 rfl) ?_
  refine lv_tableIn (tgt := 68) (off := 53) hx hb dPT_throwIfTold_15 (by decide) (by decide) (by decide) (by decide) ?_
  exact k_thr (own := RPT) (names := exC) hx hb hlt hown hts (by decide +kernel) (by decide +kernel) m_cl_PT_40 m_in_IndexOutOfBoundsException (List.mem_of_getElem? (i := 2) rfl) (List.mem_of_getElem? (i := 2) rfl) at_PT_44 hF hS (hl.1.trans hml.symm) dPT_throwIfTold_68 dPT_throwIfTold_71 dPT_throwIfTold_72 dPT_throwIfTold_74 dPT_throwIfTold_77 (fun x h9 => ht x _ h9) (by decide) (Nat.le_of_ble_eq_true rfl) (Nat.le_of_ble_eq_true rfl) (Nat.le_of_ble_eq_true rfl) hlocks hP hK hD (Nat.le_of_ble_eq_true rfl) (Nat.le_of_ble_eq_true rfl)

set_option maxHeartbeats 4000000 in
set_option maxRecDepth 100000 in
theorem k_PT_throwIfTold_4 (l : Launch) (dC : Nat → ClassId) (dI : Nat → Nat → Nat) (cI cJ cG cZ : ClassId) (h0 : Nat) (h1 : Nat) (h2 : Nat) (h3 : Nat) (an : Nat → Int64) (sm : Nat → Int64) (fl : Nat → Int32) (k : Nat) (hk : k < 12) (hf : fl k = 4) (hlt : l.stackTraces = false) : k_T l yPT_throwIfTold wsPT_throwIfTold rm_PT_throwIfTold (dC, dI) vwCl [(cI, .int), (cJ, .long), (cG, .array .long), (cZ, .boolean)] [.ref h0, .int (nI k)] [(h0, .inr (4, [.ref h1, .ref h2, .ref h3])), (h1, .inl (cJ, 12, .inr (.inl an))), (h2, .inl (cJ, 12, .inr (.inl sm))), (h3, .inl (cI, 12, .inl fl))] "java/lang/ArithmeticException" [(h0, .inr (4, [.ref h1, .ref h2, .ref h3])), (h1, .inl (cJ, 12, .inr (.inl an))), (h2, .inl (cJ, 12, .inr (.inl sm))), (h3, .inl (cI, 12, .inl (upd fl k 0)))] := by
  refine k_tof (cc := cPT_throwIfTold) (maxL := 3) (ret := none) (by decide) rfl (Nat.le_of_ble_eq_true rfl) ?_
  intro p e s m below meth c A ls hx hb hr hlocks hml hown hts hA hP hD hK hF hl hS ht
  have hown : s.vm.findClass RPT = some m.cls := hown
  have hl : lv_has ls 3 [(0, .ref h0), (1, .int (nI k))] := hl
  refine lv_aload_n hx hb dPT_throwIfTold_0 rfl (lv_at hl 0 rfl) ?_
  refine va_get (D := (dC, dI)) (ci := 4) (v := .ref h3) (C := RPT) (T := TPT) (N := 3) hx hb hts inPT hown hK hP 0 rfl rfl 2 (by decide) (hts _ m_f_PT_18) (fun _ h9 => h9) rfl dPT_throwIfTold_1 ?_
  refine lv_iload_n hx hb dPT_throwIfTold_4 rfl (lv_at hl 1 rfl) ?_
  refine k_ild (v := fl k) hx hb hK hP 3 0 rfl rfl (j := k) rfl hk (by decide) rfl dPT_throwIfTold_5 ?_
  refine k_topi (y := 4) hf ?_
  refine lv_istore_n (lv' := [(2, .int 4), (0, .ref h0), (1, .int (nI k))]) hx hb dPT_throwIfTold_6 rfl hl (by decide) rfl (fun ls hl => ?_)
  refine lv_aload_n hx hb dPT_throwIfTold_7 rfl (lv_at hl 1 rfl) ?_
  refine va_get (D := (dC, dI)) (ci := 4) (v := .ref h3) (C := RPT) (T := TPT) (N := 3) hx hb hts inPT hown hK hP 0 rfl rfl 2 (by decide) (hts _ m_f_PT_18) (fun _ h9 => h9) rfl dPT_throwIfTold_8 ?_
  refine lv_iload_n hx hb dPT_throwIfTold_11 rfl (lv_at hl 2 rfl) ?_
  refine lv_iconst (v := 0) hx hb dPT_throwIfTold_12 (by decide) ?_
  refine k_ist (W1 := [(h0, .inr (4, [.ref h1, .ref h2, .ref h3])), (h1, .inl (cJ, 12, .inr (.inl an))), (h2, .inl (cJ, 12, .inr (.inl sm))), (h3, .inl (cI, 12, .inl (upd fl k 0)))]) hx hb hK hP hD hS 3 0 rfl rfl (j := k) rfl hk (by decide) rfl dPT_throwIfTold_13 (fun H locs hP hD hS => ?_)
  refine lv_iload_n hx hb dPT_throwIfTold_14 rfl (lv_at hl 0 rfl) ?_
  refine lv_tableIn (tgt := 78) (off := 63) hx hb dPT_throwIfTold_15 (by decide) (by decide) (by decide) (by decide) ?_
  exact k_thr (own := RPT) (names := exC) hx hb hlt hown hts (by decide +kernel) (by decide +kernel) m_cl_PT_45 m_in_ArithmeticException (List.mem_of_getElem? (i := 3) rfl) (List.mem_of_getElem? (i := 3) rfl) at_PT_49 hF hS (hl.1.trans hml.symm) dPT_throwIfTold_78 dPT_throwIfTold_81 dPT_throwIfTold_82 dPT_throwIfTold_84 dPT_throwIfTold_87 (fun x h9 => ht x _ h9) (by decide) (Nat.le_of_ble_eq_true rfl) (Nat.le_of_ble_eq_true rfl) (Nat.le_of_ble_eq_true rfl) hlocks hP hK hD (Nat.le_of_ble_eq_true rfl) (Nat.le_of_ble_eq_true rfl)

set_option maxHeartbeats 4000000 in
set_option maxRecDepth 100000 in
theorem k_PT_throwIfTold_5 (l : Launch) (dC : Nat → ClassId) (dI : Nat → Nat → Nat) (cI cJ cG cZ : ClassId) (h0 : Nat) (h1 : Nat) (h2 : Nat) (h3 : Nat) (an : Nat → Int64) (sm : Nat → Int64) (fl : Nat → Int32) (k : Nat) (hk : k < 12) (hf : fl k = 5) (hlt : l.stackTraces = false) : k_T l yPT_throwIfTold wsPT_throwIfTold rm_PT_throwIfTold (dC, dI) vwCl [(cI, .int), (cJ, .long), (cG, .array .long), (cZ, .boolean)] [.ref h0, .int (nI k)] [(h0, .inr (4, [.ref h1, .ref h2, .ref h3])), (h1, .inl (cJ, 12, .inr (.inl an))), (h2, .inl (cJ, 12, .inr (.inl sm))), (h3, .inl (cI, 12, .inl fl))] "java/lang/UnsupportedOperationException" [(h0, .inr (4, [.ref h1, .ref h2, .ref h3])), (h1, .inl (cJ, 12, .inr (.inl an))), (h2, .inl (cJ, 12, .inr (.inl sm))), (h3, .inl (cI, 12, .inl (upd fl k 0)))] := by
  refine k_tof (cc := cPT_throwIfTold) (maxL := 3) (ret := none) (by decide) rfl (Nat.le_of_ble_eq_true rfl) ?_
  intro p e s m below meth c A ls hx hb hr hlocks hml hown hts hA hP hD hK hF hl hS ht
  have hown : s.vm.findClass RPT = some m.cls := hown
  have hl : lv_has ls 3 [(0, .ref h0), (1, .int (nI k))] := hl
  refine lv_aload_n hx hb dPT_throwIfTold_0 rfl (lv_at hl 0 rfl) ?_
  refine va_get (D := (dC, dI)) (ci := 4) (v := .ref h3) (C := RPT) (T := TPT) (N := 3) hx hb hts inPT hown hK hP 0 rfl rfl 2 (by decide) (hts _ m_f_PT_18) (fun _ h9 => h9) rfl dPT_throwIfTold_1 ?_
  refine lv_iload_n hx hb dPT_throwIfTold_4 rfl (lv_at hl 1 rfl) ?_
  refine k_ild (v := fl k) hx hb hK hP 3 0 rfl rfl (j := k) rfl hk (by decide) rfl dPT_throwIfTold_5 ?_
  refine k_topi (y := 5) hf ?_
  refine lv_istore_n (lv' := [(2, .int 5), (0, .ref h0), (1, .int (nI k))]) hx hb dPT_throwIfTold_6 rfl hl (by decide) rfl (fun ls hl => ?_)
  refine lv_aload_n hx hb dPT_throwIfTold_7 rfl (lv_at hl 1 rfl) ?_
  refine va_get (D := (dC, dI)) (ci := 4) (v := .ref h3) (C := RPT) (T := TPT) (N := 3) hx hb hts inPT hown hK hP 0 rfl rfl 2 (by decide) (hts _ m_f_PT_18) (fun _ h9 => h9) rfl dPT_throwIfTold_8 ?_
  refine lv_iload_n hx hb dPT_throwIfTold_11 rfl (lv_at hl 2 rfl) ?_
  refine lv_iconst (v := 0) hx hb dPT_throwIfTold_12 (by decide) ?_
  refine k_ist (W1 := [(h0, .inr (4, [.ref h1, .ref h2, .ref h3])), (h1, .inl (cJ, 12, .inr (.inl an))), (h2, .inl (cJ, 12, .inr (.inl sm))), (h3, .inl (cI, 12, .inl (upd fl k 0)))]) hx hb hK hP hD hS 3 0 rfl rfl (j := k) rfl hk (by decide) rfl dPT_throwIfTold_13 (fun H locs hP hD hS => ?_)
  refine lv_iload_n hx hb dPT_throwIfTold_14 rfl (lv_at hl 0 rfl) ?_
  refine lv_tableIn (tgt := 88) (off := 73) hx hb dPT_throwIfTold_15 (by decide) (by decide) (by decide) (by decide) ?_
  exact k_thr (own := RPT) (names := exC) hx hb hlt hown hts (by decide +kernel) (by decide +kernel) m_cl_PT_50 m_in_UnsupportedOperationException (List.mem_of_getElem? (i := 4) rfl) (List.mem_of_getElem? (i := 4) rfl) at_PT_54 hF hS (hl.1.trans hml.symm) dPT_throwIfTold_88 dPT_throwIfTold_91 dPT_throwIfTold_92 dPT_throwIfTold_94 dPT_throwIfTold_97 (fun x h9 => ht x _ h9) (by decide) (Nat.le_of_ble_eq_true rfl) (Nat.le_of_ble_eq_true rfl) (Nat.le_of_ble_eq_true rfl) hlocks hP hK hD (Nat.le_of_ble_eq_true rfl) (Nat.le_of_ble_eq_true rfl)

abbrev rm_PT_answerTo : Room := { frames := 7, cells := 1, slots := 6, locals := 104 }
set_option maxHeartbeats 4000000 in
set_option maxRecDepth 100000 in
theorem k_PT_answerTo (l : Launch) (dC : Nat → ClassId) (dI : Nat → Nat → Nat) (cI cJ cG cZ : ClassId) (h0 : Nat) (h1 : Nat) (h2 : Nat) (h3 : Nat) (an : Nat → Int64) (sm : Nat → Int64) (fl : Nat → Int32) (k : Nat) (n : Int32) (v : Int64) (hk : k < 12) (hf : fl k = 0) : k_M l yPT_answerTo wsPT_answerTo rm_PT_answerTo (dC, dI) vwCl [(cI, .int), (cJ, .long), (cG, .array .long), (cZ, .boolean)] [.ref h0, .int (nI k), .int n, .long v] [(h0, .inr (4, [.ref h1, .ref h2, .ref h3])), (h1, .inl (cJ, 12, .inr (.inl an))), (h2, .inl (cJ, 12, .inr (.inl sm))), (h3, .inl (cI, 12, .inl fl))] (some (.long (an k + 3 * n.toInt64 + (sm k + v)))) [(h0, .inr (4, [.ref h1, .ref h2, .ref h3])), (h1, .inl (cJ, 12, .inr (.inl an))), (h2, .inl (cJ, 12, .inr (.inl (vp_updL sm k (sm k + v))))), (h3, .inl (cI, 12, .inl (upd fl k 0)))] := by
  refine k_of (cc := cPT_answerTo) (maxL := 5) (ret := (some .long)) (by decide) rfl (Nat.le_of_ble_eq_true rfl) ?_
  intro p e s m below meth c A ls hx hb hr hlocks hml hown hts hA hP hD hK hF hl hS
  have hown : s.vm.findClass RPT = some m.cls := hown
  have hl : lv_has ls 5 [(0, .ref h0), (1, .int (nI k)), (2, .int n), (3, .long v)] := hl
  refine lv_aload_n hx hb dPT_answerTo_0 rfl (lv_at hl 0 rfl) ?_
  refine va_get (D := (dC, dI)) (ci := 4) (v := .ref h2) (C := RPT) (T := TPT) (N := 3) hx hb hts inPT hown hK hP 0 rfl rfl 1 (by decide) (hts _ m_f_PT_15) (fun _ h9 => h9) rfl dPT_answerTo_1 ?_
  refine lv_iload_n hx hb dPT_answerTo_4 rfl (lv_at hl 1 rfl) ?_
  refine lv_dup2_11 hx hb dPT_answerTo_5 rfl rfl ?_
  refine k_lld (v := sm k) hx hb hK hP 2 1 rfl rfl (j := k) rfl hk (by decide) rfl dPT_answerTo_6 ?_
  refine lv_lload_n hx hb dPT_answerTo_7 rfl (lv_at hl 3 rfl) ?_
  refine lv_ladd hx hb dPT_answerTo_8 ?_
  refine k_lst (W1 := [(h0, .inr (4, [.ref h1, .ref h2, .ref h3])), (h1, .inl (cJ, 12, .inr (.inl an))), (h2, .inl (cJ, 12, .inr (.inl (vp_updL sm k ((sm k) + v))))), (h3, .inl (cI, 12, .inl fl))]) hx hb hK hP hD hS 2 1 rfl rfl (j := k) rfl hk (by decide) rfl dPT_answerTo_9 (fun H locs hP hD hS => ?_)
  refine lv_aload_n hx hb dPT_answerTo_10 rfl (lv_at hl 0 rfl) ?_
  refine lv_iload_n hx hb dPT_answerTo_11 rfl (lv_at hl 1 rfl) ?_
  refine k_V (wr := []) (W1 := [(h0, .inr (4, [.ref h1, .ref h2, .ref h3])), (h1, .inl (cJ, 12, .inr (.inl an))), (h2, .inl (cJ, 12, .inr (.inl (vp_updL sm k ((sm k) + v))))), (h3, .inl (cI, 12, .inl (upd fl k 0)))]) (st1 := []) ⟨hx, hb, hml, hown, hts⟩ (k_PT_throwIfTold l dC dI cI cJ cG cZ h0 h1 h2 h3 an (vp_updL sm k ((sm k) + v)) fl k hk hf) (cwV 1 hts (k_gV m_l_PT_22 m_i_PT_throwIfTold m_s_PT_throwIfTold m_in_PT m_c_PT_throwIfTold) rfl rfl rfl (by decide +kernel) ⟨Nat.le_of_ble_eq_true rfl, Nat.le_of_ble_eq_true rfl⟩) hK hF hP hD hS hA [0, 1, 2, 3] [] [0, 1, 2, 3] rfl rfl (by decide) (by decide) (by decide) rfl (by decide) rfl rfl rfl rfl hl.1 rfl (Nat.le_of_ble_eq_true rfl) dPT_answerTo_12 ⟨Nat.le_of_ble_eq_true rfl, Nat.le_of_ble_eq_true rfl⟩ rfl (fun H locs hP hD hS => ?_)
  refine lv_aload_n hx hb dPT_answerTo_15 rfl (lv_at hl 0 rfl) ?_
  refine va_get (D := (dC, dI)) (ci := 4) (v := .ref h1) (C := RPT) (T := TPT) (N := 3) hx hb hts inPT hown hK hP 0 rfl rfl 0 (by decide) (hts _ m_f_PT_9) (fun _ h9 => h9) rfl dPT_answerTo_16 ?_
  refine lv_iload_n hx hb dPT_answerTo_19 rfl (lv_at hl 1 rfl) ?_
  refine k_lld (v := an k) hx hb hK hP 1 1 rfl rfl (j := k) rfl hk (by decide) rfl dPT_answerTo_20 ?_
  refine lv_ldc2 (v := 3) hx hb hown (hts _ m_k_PT_26) dPT_answerTo_21 ?_
  refine lv_iload_n hx hb dPT_answerTo_24 rfl (lv_at hl 2 rfl) ?_
  refine lv_i2l hx hb dPT_answerTo_25 rfl ?_
  refine lv_lmul hx hb dPT_answerTo_26 ?_
  refine lv_ladd hx hb dPT_answerTo_27 ?_
  refine lv_aload_n hx hb dPT_answerTo_28 rfl (lv_at hl 0 rfl) ?_
  refine va_get (D := (dC, dI)) (ci := 4) (v := .ref h2) (C := RPT) (T := TPT) (N := 3) hx hb hts inPT hown hK hP 0 rfl rfl 1 (by decide) (hts _ m_f_PT_15) (fun _ h9 => h9) rfl dPT_answerTo_29 ?_
  refine lv_iload_n hx hb dPT_answerTo_32 rfl (lv_at hl 1 rfl) ?_
  refine k_lld (v := ((sm k) + v)) hx hb hK hP 2 1 rfl rfl (j := k) rfl hk (by decide) pk_uLs dPT_answerTo_33 ?_
  refine lv_ladd hx hb dPT_answerTo_34 ?_
  exact k_lret hx hb hr hlocks hP hK hD hS rfl dPT_answerTo_35 ⟨Nat.le_of_ble_eq_true rfl, Nat.le_of_ble_eq_true rfl⟩

set_option maxHeartbeats 4000000 in
set_option maxRecDepth 100000 in
theorem k_PT_answerTo_1 (l : Launch) (dC : Nat → ClassId) (dI : Nat → Nat → Nat) (cI cJ cG cZ : ClassId) (h0 : Nat) (h1 : Nat) (h2 : Nat) (h3 : Nat) (an : Nat → Int64) (sm : Nat → Int64) (fl : Nat → Int32) (k : Nat) (n : Int32) (v : Int64) (hk : k < 12) (hf : fl k = 1) (hlt : l.stackTraces = false) : k_T l yPT_answerTo wsPT_answerTo rm_PT_answerTo (dC, dI) vwCl [(cI, .int), (cJ, .long), (cG, .array .long), (cZ, .boolean)] [.ref h0, .int (nI k), .int n, .long v] [(h0, .inr (4, [.ref h1, .ref h2, .ref h3])), (h1, .inl (cJ, 12, .inr (.inl an))), (h2, .inl (cJ, 12, .inr (.inl sm))), (h3, .inl (cI, 12, .inl fl))] "java/lang/IllegalStateException" [(h0, .inr (4, [.ref h1, .ref h2, .ref h3])), (h1, .inl (cJ, 12, .inr (.inl an))), (h2, .inl (cJ, 12, .inr (.inl (vp_updL sm k (sm k + v))))), (h3, .inl (cI, 12, .inl (upd fl k 0)))] := by
  refine k_tof (cc := cPT_answerTo) (maxL := 5) (ret := (some .long)) (by decide) rfl (Nat.le_of_ble_eq_true rfl) ?_
  intro p e s m below meth c A ls hx hb hr hlocks hml hown hts hA hP hD hK hF hl hS ht
  have hown : s.vm.findClass RPT = some m.cls := hown
  have hl : lv_has ls 5 [(0, .ref h0), (1, .int (nI k)), (2, .int n), (3, .long v)] := hl
  refine lv_aload_n hx hb dPT_answerTo_0 rfl (lv_at hl 0 rfl) ?_
  refine va_get (D := (dC, dI)) (ci := 4) (v := .ref h2) (C := RPT) (T := TPT) (N := 3) hx hb hts inPT hown hK hP 0 rfl rfl 1 (by decide) (hts _ m_f_PT_15) (fun _ h9 => h9) rfl dPT_answerTo_1 ?_
  refine lv_iload_n hx hb dPT_answerTo_4 rfl (lv_at hl 1 rfl) ?_
  refine lv_dup2_11 hx hb dPT_answerTo_5 rfl rfl ?_
  refine k_lld (v := sm k) hx hb hK hP 2 1 rfl rfl (j := k) rfl hk (by decide) rfl dPT_answerTo_6 ?_
  refine lv_lload_n hx hb dPT_answerTo_7 rfl (lv_at hl 3 rfl) ?_
  refine lv_ladd hx hb dPT_answerTo_8 ?_
  refine k_lst (W1 := [(h0, .inr (4, [.ref h1, .ref h2, .ref h3])), (h1, .inl (cJ, 12, .inr (.inl an))), (h2, .inl (cJ, 12, .inr (.inl (vp_updL sm k ((sm k) + v))))), (h3, .inl (cI, 12, .inl fl))]) hx hb hK hP hD hS 2 1 rfl rfl (j := k) rfl hk (by decide) rfl dPT_answerTo_9 (fun H locs hP hD hS => ?_)
  refine lv_aload_n hx hb dPT_answerTo_10 rfl (lv_at hl 0 rfl) ?_
  refine lv_iload_n hx hb dPT_answerTo_11 rfl (lv_at hl 1 rfl) ?_
  refine k_VT (wr := []) (W1 := [(h0, .inr (4, [.ref h1, .ref h2, .ref h3])), (h1, .inl (cJ, 12, .inr (.inl an))), (h2, .inl (cJ, 12, .inr (.inl (vp_updL sm k ((sm k) + v))))), (h3, .inl (cI, 12, .inl (upd fl k 0)))]) (rest := []) ⟨hx, hb, hml, hown, hts⟩ (k_PT_throwIfTold_1 l dC dI cI cJ cG cZ h0 h1 h2 h3 an (vp_updL sm k ((sm k) + v)) fl k hk hf hlt) (cwV 1 hts (k_gV m_l_PT_22 m_i_PT_throwIfTold m_s_PT_throwIfTold m_in_PT m_c_PT_throwIfTold) rfl rfl rfl (by decide +kernel) ⟨Nat.le_of_ble_eq_true rfl, Nat.le_of_ble_eq_true rfl⟩) hK hF hP hD hS hA [0, 1, 2, 3] [] [0, 1, 2, 3] rfl rfl (by decide) (by decide) (by decide) rfl (by decide) rfl rfl rfl rfl hl.1 rfl (Nat.le_of_ble_eq_true rfl) dPT_answerTo_12 ⟨Nat.le_of_ble_eq_true rfl, Nat.le_of_ble_eq_true rfl⟩ (fun q9 ce H locs hP hD hS hce hcv hcl => ?_)
  exact k_pass (fun x h9 => ht x _ h9) hlocks hce hcv hcl hP hK hD hS ⟨Nat.le_of_ble_eq_true rfl, Nat.le_of_ble_eq_true rfl⟩

set_option maxHeartbeats 4000000 in
set_option maxRecDepth 100000 in
theorem k_PT_answerTo_2 (l : Launch) (dC : Nat → ClassId) (dI : Nat → Nat → Nat) (cI cJ cG cZ : ClassId) (h0 : Nat) (h1 : Nat) (h2 : Nat) (h3 : Nat) (an : Nat → Int64) (sm : Nat → Int64) (fl : Nat → Int32) (k : Nat) (n : Int32) (v : Int64) (hk : k < 12) (hf : fl k = 2) (hlt : l.stackTraces = false) : k_T l yPT_answerTo wsPT_answerTo rm_PT_answerTo (dC, dI) vwCl [(cI, .int), (cJ, .long), (cG, .array .long), (cZ, .boolean)] [.ref h0, .int (nI k), .int n, .long v] [(h0, .inr (4, [.ref h1, .ref h2, .ref h3])), (h1, .inl (cJ, 12, .inr (.inl an))), (h2, .inl (cJ, 12, .inr (.inl sm))), (h3, .inl (cI, 12, .inl fl))] "java/lang/IllegalArgumentException" [(h0, .inr (4, [.ref h1, .ref h2, .ref h3])), (h1, .inl (cJ, 12, .inr (.inl an))), (h2, .inl (cJ, 12, .inr (.inl (vp_updL sm k (sm k + v))))), (h3, .inl (cI, 12, .inl (upd fl k 0)))] := by
  refine k_tof (cc := cPT_answerTo) (maxL := 5) (ret := (some .long)) (by decide) rfl (Nat.le_of_ble_eq_true rfl) ?_
  intro p e s m below meth c A ls hx hb hr hlocks hml hown hts hA hP hD hK hF hl hS ht
  have hown : s.vm.findClass RPT = some m.cls := hown
  have hl : lv_has ls 5 [(0, .ref h0), (1, .int (nI k)), (2, .int n), (3, .long v)] := hl
  refine lv_aload_n hx hb dPT_answerTo_0 rfl (lv_at hl 0 rfl) ?_
  refine va_get (D := (dC, dI)) (ci := 4) (v := .ref h2) (C := RPT) (T := TPT) (N := 3) hx hb hts inPT hown hK hP 0 rfl rfl 1 (by decide) (hts _ m_f_PT_15) (fun _ h9 => h9) rfl dPT_answerTo_1 ?_
  refine lv_iload_n hx hb dPT_answerTo_4 rfl (lv_at hl 1 rfl) ?_
  refine lv_dup2_11 hx hb dPT_answerTo_5 rfl rfl ?_
  refine k_lld (v := sm k) hx hb hK hP 2 1 rfl rfl (j := k) rfl hk (by decide) rfl dPT_answerTo_6 ?_
  refine lv_lload_n hx hb dPT_answerTo_7 rfl (lv_at hl 3 rfl) ?_
  refine lv_ladd hx hb dPT_answerTo_8 ?_
  refine k_lst (W1 := [(h0, .inr (4, [.ref h1, .ref h2, .ref h3])), (h1, .inl (cJ, 12, .inr (.inl an))), (h2, .inl (cJ, 12, .inr (.inl (vp_updL sm k ((sm k) + v))))), (h3, .inl (cI, 12, .inl fl))]) hx hb hK hP hD hS 2 1 rfl rfl (j := k) rfl hk (by decide) rfl dPT_answerTo_9 (fun H locs hP hD hS => ?_)
  refine lv_aload_n hx hb dPT_answerTo_10 rfl (lv_at hl 0 rfl) ?_
  refine lv_iload_n hx hb dPT_answerTo_11 rfl (lv_at hl 1 rfl) ?_
  refine k_VT (wr := []) (W1 := [(h0, .inr (4, [.ref h1, .ref h2, .ref h3])), (h1, .inl (cJ, 12, .inr (.inl an))), (h2, .inl (cJ, 12, .inr (.inl (vp_updL sm k ((sm k) + v))))), (h3, .inl (cI, 12, .inl (upd fl k 0)))]) (rest := []) ⟨hx, hb, hml, hown, hts⟩ (k_PT_throwIfTold_2 l dC dI cI cJ cG cZ h0 h1 h2 h3 an (vp_updL sm k ((sm k) + v)) fl k hk hf hlt) (cwV 1 hts (k_gV m_l_PT_22 m_i_PT_throwIfTold m_s_PT_throwIfTold m_in_PT m_c_PT_throwIfTold) rfl rfl rfl (by decide +kernel) ⟨Nat.le_of_ble_eq_true rfl, Nat.le_of_ble_eq_true rfl⟩) hK hF hP hD hS hA [0, 1, 2, 3] [] [0, 1, 2, 3] rfl rfl (by decide) (by decide) (by decide) rfl (by decide) rfl rfl rfl rfl hl.1 rfl (Nat.le_of_ble_eq_true rfl) dPT_answerTo_12 ⟨Nat.le_of_ble_eq_true rfl, Nat.le_of_ble_eq_true rfl⟩ (fun q9 ce H locs hP hD hS hce hcv hcl => ?_)
  exact k_pass (fun x h9 => ht x _ h9) hlocks hce hcv hcl hP hK hD hS ⟨Nat.le_of_ble_eq_true rfl, Nat.le_of_ble_eq_true rfl⟩

set_option maxHeartbeats 4000000 in
set_option maxRecDepth 100000 in
theorem k_PT_answerTo_3 (l : Launch) (dC : Nat → ClassId) (dI : Nat → Nat → Nat) (cI cJ cG cZ : ClassId) (h0 : Nat) (h1 : Nat) (h2 : Nat) (h3 : Nat) (an : Nat → Int64) (sm : Nat → Int64) (fl : Nat → Int32) (k : Nat) (n : Int32) (v : Int64) (hk : k < 12) (hf : fl k = 3) (hlt : l.stackTraces = false) : k_T l yPT_answerTo wsPT_answerTo rm_PT_answerTo (dC, dI) vwCl [(cI, .int), (cJ, .long), (cG, .array .long), (cZ, .boolean)] [.ref h0, .int (nI k), .int n, .long v] [(h0, .inr (4, [.ref h1, .ref h2, .ref h3])), (h1, .inl (cJ, 12, .inr (.inl an))), (h2, .inl (cJ, 12, .inr (.inl sm))), (h3, .inl (cI, 12, .inl fl))] "java/lang/IndexOutOfBoundsException" [(h0, .inr (4, [.ref h1, .ref h2, .ref h3])), (h1, .inl (cJ, 12, .inr (.inl an))), (h2, .inl (cJ, 12, .inr (.inl (vp_updL sm k (sm k + v))))), (h3, .inl (cI, 12, .inl (upd fl k 0)))] := by
  refine k_tof (cc := cPT_answerTo) (maxL := 5) (ret := (some .long)) (by decide) rfl (Nat.le_of_ble_eq_true rfl) ?_
  intro p e s m below meth c A ls hx hb hr hlocks hml hown hts hA hP hD hK hF hl hS ht
  have hown : s.vm.findClass RPT = some m.cls := hown
  have hl : lv_has ls 5 [(0, .ref h0), (1, .int (nI k)), (2, .int n), (3, .long v)] := hl
  refine lv_aload_n hx hb dPT_answerTo_0 rfl (lv_at hl 0 rfl) ?_
  refine va_get (D := (dC, dI)) (ci := 4) (v := .ref h2) (C := RPT) (T := TPT) (N := 3) hx hb hts inPT hown hK hP 0 rfl rfl 1 (by decide) (hts _ m_f_PT_15) (fun _ h9 => h9) rfl dPT_answerTo_1 ?_
  refine lv_iload_n hx hb dPT_answerTo_4 rfl (lv_at hl 1 rfl) ?_
  refine lv_dup2_11 hx hb dPT_answerTo_5 rfl rfl ?_
  refine k_lld (v := sm k) hx hb hK hP 2 1 rfl rfl (j := k) rfl hk (by decide) rfl dPT_answerTo_6 ?_
  refine lv_lload_n hx hb dPT_answerTo_7 rfl (lv_at hl 3 rfl) ?_
  refine lv_ladd hx hb dPT_answerTo_8 ?_
  refine k_lst (W1 := [(h0, .inr (4, [.ref h1, .ref h2, .ref h3])), (h1, .inl (cJ, 12, .inr (.inl an))), (h2, .inl (cJ, 12, .inr (.inl (vp_updL sm k ((sm k) + v))))), (h3, .inl (cI, 12, .inl fl))]) hx hb hK hP hD hS 2 1 rfl rfl (j := k) rfl hk (by decide) rfl dPT_answerTo_9 (fun H locs hP hD hS => ?_)
  refine lv_aload_n hx hb dPT_answerTo_10 rfl (lv_at hl 0 rfl) ?_
  refine lv_iload_n hx hb dPT_answerTo_11 rfl (lv_at hl 1 rfl) ?_
  refine k_VT (wr := []) (W1 := [(h0, .inr (4, [.ref h1, .ref h2, .ref h3])), (h1, .inl (cJ, 12, .inr (.inl an))), (h2, .inl (cJ, 12, .inr (.inl (vp_updL sm k ((sm k) + v))))), (h3, .inl (cI, 12, .inl (upd fl k 0)))]) (rest := []) ⟨hx, hb, hml, hown, hts⟩ (k_PT_throwIfTold_3 l dC dI cI cJ cG cZ h0 h1 h2 h3 an (vp_updL sm k ((sm k) + v)) fl k hk hf hlt) (cwV 1 hts (k_gV m_l_PT_22 m_i_PT_throwIfTold m_s_PT_throwIfTold m_in_PT m_c_PT_throwIfTold) rfl rfl rfl (by decide +kernel) ⟨Nat.le_of_ble_eq_true rfl, Nat.le_of_ble_eq_true rfl⟩) hK hF hP hD hS hA [0, 1, 2, 3] [] [0, 1, 2, 3] rfl rfl (by decide) (by decide) (by decide) rfl (by decide) rfl rfl rfl rfl hl.1 rfl (Nat.le_of_ble_eq_true rfl) dPT_answerTo_12 ⟨Nat.le_of_ble_eq_true rfl, Nat.le_of_ble_eq_true rfl⟩ (fun q9 ce H locs hP hD hS hce hcv hcl => ?_)
  exact k_pass (fun x h9 => ht x _ h9) hlocks hce hcv hcl hP hK hD hS ⟨Nat.le_of_ble_eq_true rfl, Nat.le_of_ble_eq_true rfl⟩

set_option maxHeartbeats 4000000 in
set_option maxRecDepth 100000 in
theorem k_PT_answerTo_4 (l : Launch) (dC : Nat → ClassId) (dI : Nat → Nat → Nat) (cI cJ cG cZ : ClassId) (h0 : Nat) (h1 : Nat) (h2 : Nat) (h3 : Nat) (an : Nat → Int64) (sm : Nat → Int64) (fl : Nat → Int32) (k : Nat) (n : Int32) (v : Int64) (hk : k < 12) (hf : fl k = 4) (hlt : l.stackTraces = false) : k_T l yPT_answerTo wsPT_answerTo rm_PT_answerTo (dC, dI) vwCl [(cI, .int), (cJ, .long), (cG, .array .long), (cZ, .boolean)] [.ref h0, .int (nI k), .int n, .long v] [(h0, .inr (4, [.ref h1, .ref h2, .ref h3])), (h1, .inl (cJ, 12, .inr (.inl an))), (h2, .inl (cJ, 12, .inr (.inl sm))), (h3, .inl (cI, 12, .inl fl))] "java/lang/ArithmeticException" [(h0, .inr (4, [.ref h1, .ref h2, .ref h3])), (h1, .inl (cJ, 12, .inr (.inl an))), (h2, .inl (cJ, 12, .inr (.inl (vp_updL sm k (sm k + v))))), (h3, .inl (cI, 12, .inl (upd fl k 0)))] := by
  refine k_tof (cc := cPT_answerTo) (maxL := 5) (ret := (some .long)) (by decide) rfl (Nat.le_of_ble_eq_true rfl) ?_
  intro p e s m below meth c A ls hx hb hr hlocks hml hown hts hA hP hD hK hF hl hS ht
  have hown : s.vm.findClass RPT = some m.cls := hown
  have hl : lv_has ls 5 [(0, .ref h0), (1, .int (nI k)), (2, .int n), (3, .long v)] := hl
  refine lv_aload_n hx hb dPT_answerTo_0 rfl (lv_at hl 0 rfl) ?_
  refine va_get (D := (dC, dI)) (ci := 4) (v := .ref h2) (C := RPT) (T := TPT) (N := 3) hx hb hts inPT hown hK hP 0 rfl rfl 1 (by decide) (hts _ m_f_PT_15) (fun _ h9 => h9) rfl dPT_answerTo_1 ?_
  refine lv_iload_n hx hb dPT_answerTo_4 rfl (lv_at hl 1 rfl) ?_
  refine lv_dup2_11 hx hb dPT_answerTo_5 rfl rfl ?_
  refine k_lld (v := sm k) hx hb hK hP 2 1 rfl rfl (j := k) rfl hk (by decide) rfl dPT_answerTo_6 ?_
  refine lv_lload_n hx hb dPT_answerTo_7 rfl (lv_at hl 3 rfl) ?_
  refine lv_ladd hx hb dPT_answerTo_8 ?_
  refine k_lst (W1 := [(h0, .inr (4, [.ref h1, .ref h2, .ref h3])), (h1, .inl (cJ, 12, .inr (.inl an))), (h2, .inl (cJ, 12, .inr (.inl (vp_updL sm k ((sm k) + v))))), (h3, .inl (cI, 12, .inl fl))]) hx hb hK hP hD hS 2 1 rfl rfl (j := k) rfl hk (by decide) rfl dPT_answerTo_9 (fun H locs hP hD hS => ?_)
  refine lv_aload_n hx hb dPT_answerTo_10 rfl (lv_at hl 0 rfl) ?_
  refine lv_iload_n hx hb dPT_answerTo_11 rfl (lv_at hl 1 rfl) ?_
  refine k_VT (wr := []) (W1 := [(h0, .inr (4, [.ref h1, .ref h2, .ref h3])), (h1, .inl (cJ, 12, .inr (.inl an))), (h2, .inl (cJ, 12, .inr (.inl (vp_updL sm k ((sm k) + v))))), (h3, .inl (cI, 12, .inl (upd fl k 0)))]) (rest := []) ⟨hx, hb, hml, hown, hts⟩ (k_PT_throwIfTold_4 l dC dI cI cJ cG cZ h0 h1 h2 h3 an (vp_updL sm k ((sm k) + v)) fl k hk hf hlt) (cwV 1 hts (k_gV m_l_PT_22 m_i_PT_throwIfTold m_s_PT_throwIfTold m_in_PT m_c_PT_throwIfTold) rfl rfl rfl (by decide +kernel) ⟨Nat.le_of_ble_eq_true rfl, Nat.le_of_ble_eq_true rfl⟩) hK hF hP hD hS hA [0, 1, 2, 3] [] [0, 1, 2, 3] rfl rfl (by decide) (by decide) (by decide) rfl (by decide) rfl rfl rfl rfl hl.1 rfl (Nat.le_of_ble_eq_true rfl) dPT_answerTo_12 ⟨Nat.le_of_ble_eq_true rfl, Nat.le_of_ble_eq_true rfl⟩ (fun q9 ce H locs hP hD hS hce hcv hcl => ?_)
  exact k_pass (fun x h9 => ht x _ h9) hlocks hce hcv hcl hP hK hD hS ⟨Nat.le_of_ble_eq_true rfl, Nat.le_of_ble_eq_true rfl⟩

set_option maxHeartbeats 4000000 in
set_option maxRecDepth 100000 in
theorem k_PT_answerTo_5 (l : Launch) (dC : Nat → ClassId) (dI : Nat → Nat → Nat) (cI cJ cG cZ : ClassId) (h0 : Nat) (h1 : Nat) (h2 : Nat) (h3 : Nat) (an : Nat → Int64) (sm : Nat → Int64) (fl : Nat → Int32) (k : Nat) (n : Int32) (v : Int64) (hk : k < 12) (hf : fl k = 5) (hlt : l.stackTraces = false) : k_T l yPT_answerTo wsPT_answerTo rm_PT_answerTo (dC, dI) vwCl [(cI, .int), (cJ, .long), (cG, .array .long), (cZ, .boolean)] [.ref h0, .int (nI k), .int n, .long v] [(h0, .inr (4, [.ref h1, .ref h2, .ref h3])), (h1, .inl (cJ, 12, .inr (.inl an))), (h2, .inl (cJ, 12, .inr (.inl sm))), (h3, .inl (cI, 12, .inl fl))] "java/lang/UnsupportedOperationException" [(h0, .inr (4, [.ref h1, .ref h2, .ref h3])), (h1, .inl (cJ, 12, .inr (.inl an))), (h2, .inl (cJ, 12, .inr (.inl (vp_updL sm k (sm k + v))))), (h3, .inl (cI, 12, .inl (upd fl k 0)))] := by
  refine k_tof (cc := cPT_answerTo) (maxL := 5) (ret := (some .long)) (by decide) rfl (Nat.le_of_ble_eq_true rfl) ?_
  intro p e s m below meth c A ls hx hb hr hlocks hml hown hts hA hP hD hK hF hl hS ht
  have hown : s.vm.findClass RPT = some m.cls := hown
  have hl : lv_has ls 5 [(0, .ref h0), (1, .int (nI k)), (2, .int n), (3, .long v)] := hl
  refine lv_aload_n hx hb dPT_answerTo_0 rfl (lv_at hl 0 rfl) ?_
  refine va_get (D := (dC, dI)) (ci := 4) (v := .ref h2) (C := RPT) (T := TPT) (N := 3) hx hb hts inPT hown hK hP 0 rfl rfl 1 (by decide) (hts _ m_f_PT_15) (fun _ h9 => h9) rfl dPT_answerTo_1 ?_
  refine lv_iload_n hx hb dPT_answerTo_4 rfl (lv_at hl 1 rfl) ?_
  refine lv_dup2_11 hx hb dPT_answerTo_5 rfl rfl ?_
  refine k_lld (v := sm k) hx hb hK hP 2 1 rfl rfl (j := k) rfl hk (by decide) rfl dPT_answerTo_6 ?_
  refine lv_lload_n hx hb dPT_answerTo_7 rfl (lv_at hl 3 rfl) ?_
  refine lv_ladd hx hb dPT_answerTo_8 ?_
  refine k_lst (W1 := [(h0, .inr (4, [.ref h1, .ref h2, .ref h3])), (h1, .inl (cJ, 12, .inr (.inl an))), (h2, .inl (cJ, 12, .inr (.inl (vp_updL sm k ((sm k) + v))))), (h3, .inl (cI, 12, .inl fl))]) hx hb hK hP hD hS 2 1 rfl rfl (j := k) rfl hk (by decide) rfl dPT_answerTo_9 (fun H locs hP hD hS => ?_)
  refine lv_aload_n hx hb dPT_answerTo_10 rfl (lv_at hl 0 rfl) ?_
  refine lv_iload_n hx hb dPT_answerTo_11 rfl (lv_at hl 1 rfl) ?_
  refine k_VT (wr := []) (W1 := [(h0, .inr (4, [.ref h1, .ref h2, .ref h3])), (h1, .inl (cJ, 12, .inr (.inl an))), (h2, .inl (cJ, 12, .inr (.inl (vp_updL sm k ((sm k) + v))))), (h3, .inl (cI, 12, .inl (upd fl k 0)))]) (rest := []) ⟨hx, hb, hml, hown, hts⟩ (k_PT_throwIfTold_5 l dC dI cI cJ cG cZ h0 h1 h2 h3 an (vp_updL sm k ((sm k) + v)) fl k hk hf hlt) (cwV 1 hts (k_gV m_l_PT_22 m_i_PT_throwIfTold m_s_PT_throwIfTold m_in_PT m_c_PT_throwIfTold) rfl rfl rfl (by decide +kernel) ⟨Nat.le_of_ble_eq_true rfl, Nat.le_of_ble_eq_true rfl⟩) hK hF hP hD hS hA [0, 1, 2, 3] [] [0, 1, 2, 3] rfl rfl (by decide) (by decide) (by decide) rfl (by decide) rfl rfl rfl rfl hl.1 rfl (Nat.le_of_ble_eq_true rfl) dPT_answerTo_12 ⟨Nat.le_of_ble_eq_true rfl, Nat.le_of_ble_eq_true rfl⟩ (fun q9 ce H locs hP hD hS hce hcv hcl => ?_)
  exact k_pass (fun x h9 => ht x _ h9) hlocks hce hcv hcl hP hK hD hS ⟨Nat.le_of_ble_eq_true rfl, Nat.le_of_ble_eq_true rfl⟩
end
section
theorem f_cases {md : Nat → Int32} {kn : Nat → Int64} (c n : Int32) : f_isPart c = 0 ∨ (∃ k : Nat, k < 12 ∧ c = nI k ∧ f_wasMade md (k % 8) n = 0) ∨ (∃ k : Nat, k < 12 ∧ c = nI k ∧ ¬ f_wasMade md (k % 8) n = 0 ∧ f_isKnown md kn (k % 8) n = 0) ∨ (∃ k : Nat, k < 12 ∧ c = nI k ∧ ¬ f_wasMade md (k % 8) n = 0 ∧ ¬ f_isKnown md kn (k % 8) n = 0) := by
  rcases f_isPart_or c with h | ⟨k, hk, rfl⟩
  · exact Or.inl h
  · by_cases h1 : f_wasMade md (k % 8) n = 0
    · exact Or.inr (Or.inl ⟨k, hk, rfl, h1⟩)
    · by_cases h2 : f_isKnown md kn (k % 8) n = 0
      · exact Or.inr (Or.inr (Or.inl ⟨k, hk, rfl, h1, h2⟩))
      · exact Or.inr (Or.inr (Or.inr ⟨k, hk, rfl, h1, h2⟩))
abbrev rm_DK_refuse : Room := { frames := 1, cells := 0, slots := 0, locals := 21 }
set_option maxHeartbeats 4000000 in
set_option maxRecDepth 100000 in
theorem k_DK_refuse (l : Launch) (dC : Nat → ClassId) (dI : Nat → Nat → Nat) (cI cJ cG cZ : ClassId) (a0 : Nat) (a1 : Nat) (a2 : Nat) (a3 : Nat) (a4 : Nat) (a5 : Nat) (t1 : Nat) (tf : Nat → Int64) (k : Nat) (hk : k < 8) : k_M l yDK_refuse wsDK_refuse rm_DK_refuse (dC, dI) vwCl [(cI, .int), (cJ, .long), (cG, .array .long), (cZ, .boolean)] [.ref a0, .int (nI k)] [(a0, .inr (1, [.ref a1, .ref a2, .ref a3, .ref a4, .ref a5])), (a3, .inr (5, [.ref t1])), (t1, .inl (cJ, 8, .inr (.inl tf)))] (some (.long ((-nI k).toInt64))) [(a0, .inr (1, [.ref a1, .ref a2, .ref a3, .ref a4, .ref a5])), (a3, .inr (5, [.ref t1])), (t1, .inl (cJ, 8, .inr (.inl (vp_updL tf k (tf k + 1)))))] := by
  refine k_of (cc := cDK_refuse) (maxL := 2) (ret := (some .long)) (by decide) rfl (Nat.le_of_ble_eq_true rfl) ?_
  intro p e s m below meth c A ls hx hb hr hlocks hml hown hts hA hP hD hK hF hl hS
  have hown : s.vm.findClass RDK = some m.cls := hown
  have hl : lv_has ls 2 [(0, .ref a0), (1, .int (nI k))] := hl
  refine lv_aload_n hx hb dDK_refuse_0 rfl (lv_at hl 0 rfl) ?_
  refine va_get (D := (dC, dI)) (ci := 1) (v := .ref a3) (C := RDK) (T := TDK) (N := 5) hx hb hts inDK hown hK hP 0 rfl rfl 2 (by decide) (hts _ m_f_DK_28) (fun _ h9 => h9) rfl dDK_refuse_1 ?_
  refine lv_iload_n hx hb dDK_refuse_4 rfl (lv_at hl 1 rfl) ?_
  refine k_V (wr := [(a0, .inr (1, [.ref a1, .ref a2, .ref a3, .ref a4, .ref a5]))]) (W1 := [(a0, .inr (1, [.ref a1, .ref a2, .ref a3, .ref a4, .ref a5])), (a3, .inr (5, [.ref t1])), (t1, .inl (cJ, 8, .inr (.inl (vp_updL tf k (tf k + 1)))))]) (st1 := []) ⟨hx, hb, hml, hown, hts⟩ (k_TL_countRefused l dC dI cI cJ cG cZ a3 t1 tf k hk) (cwV 1 hts (k_gV m_l_DK_83 m_i_TL_countRefused m_s_TL_countRefused m_in_TL m_c_TL_countRefused) rfl rfl rfl (by decide +kernel) ⟨Nat.le_of_ble_eq_true rfl, Nat.le_of_ble_eq_true rfl⟩) hK hF hP hD hS hA [1, 2] [0] [0, 1, 2] rfl rfl (by decide) (by decide) (by decide) rfl (by decide) rfl rfl rfl rfl hl.1 rfl (Nat.le_of_ble_eq_true rfl) dDK_refuse_5 ⟨Nat.le_of_ble_eq_true rfl, Nat.le_of_ble_eq_true rfl⟩ rfl (fun H locs hP hD hS => ?_)
  refine lv_iload_n hx hb dDK_refuse_8 rfl (lv_at hl 1 rfl) ?_
  refine lv_ineg hx hb dDK_refuse_9 ?_
  refine lv_i2l hx hb dDK_refuse_10 rfl ?_
  exact k_lret hx hb hr hlocks hP hK hD hS rfl dDK_refuse_11 ⟨Nat.le_of_ble_eq_true rfl, Nat.le_of_ble_eq_true rfl⟩

abbrev rm_DK_askPart : Room := { frames := 8, cells := 1, slots := 6, locals := 128 }
set_option maxHeartbeats 4000000 in
set_option maxRecDepth 100000 in
theorem k_DK_askPart (l : Launch) (dC : Nat → ClassId) (dI : Nat → Nat → Nat) (cI cJ cG cZ : ClassId) (a0 : Nat) (a1 : Nat) (a2 : Nat) (a3 : Nat) (a4 : Nat) (a5 : Nat) (p1 : Nat) (p2 : Nat) (p3 : Nat) (t1 : Nat) (an : Nat → Int64) (sm : Nat → Int64) (fl : Nat → Int32) (tf : Nat → Int64) (k : Nat) (n : Int32) (v : Int64) (hk : k < 12) (hg : fl k = 0 ∨ fl k = 1 ∨ fl k = 2 ∨ fl k = 3 ∨ fl k = 4 ∨ fl k = 5) (hlt : l.stackTraces = false) : k_M l yDK_askPart wsDK_askPart rm_DK_askPart (dC, dI) vwCl [(cI, .int), (cJ, .long), (cG, .array .long), (cZ, .boolean)] [.ref a0, .int (nI k), .int n, .long v] [(a0, .inr (1, [.ref a1, .ref a2, .ref a3, .ref a4, .ref a5])), (a2, .inr (4, [.ref p1, .ref p2, .ref p3])), (p1, .inl (cJ, 12, .inr (.inl an))), (p2, .inl (cJ, 12, .inr (.inl sm))), (p3, .inl (cI, 12, .inl fl)), (a3, .inr (5, [.ref t1])), (t1, .inl (cJ, 8, .inr (.inl tf)))] (some (.long (f_apA an sm fl k n v))) [(a0, .inr (1, [.ref a1, .ref a2, .ref a3, .ref a4, .ref a5])), (a2, .inr (4, [.ref p1, .ref p2, .ref p3])), (p1, .inl (cJ, 12, .inr (.inl an))), (p2, .inl (cJ, 12, .inr (.inl (f_apS sm fl k v)))), (p3, .inl (cI, 12, .inl (upd fl k 0))), (a3, .inr (5, [.ref t1])), (t1, .inl (cJ, 8, .inr (.inl (f_apT tf fl k n))))] := by
  rcases hg with hf | hf | hf | hf | hf | hf
  · rw [show f_apS sm fl k v = vp_updL sm k (sm k + v) from if_pos hf, show f_apT tf fl k n = vp_updL tf 0 (tf 0 + 1) from if_pos hf, show f_apA an sm fl k n v = an k + 3 * n.toInt64 + (sm k + v) from if_pos hf]
    refine k_ofH (cc := cDK_askPart) (maxL := 11) (ret := (some .long)) (by decide) rfl (Nat.le_of_ble_eq_true rfl) ?_
    intro p e s m below meth c A ls hx hb hr hlocks hml hown hts hA hP hD hK hF hl hS ht
    have hown : s.vm.findClass RDK = some m.cls := hown
    have hl : lv_has ls 11 [(0, .ref a0), (1, .int (nI k)), (2, .int n), (3, .long v)] := hl
    refine lv_aload_n hx hb dDK_askPart_0 rfl (lv_at hl 0 rfl) ?_
    refine va_get (D := (dC, dI)) (ci := 1) (v := .ref a2) (C := RDK) (T := TDK) (N := 5) hx hb hts inDK hown hK hP 0 rfl rfl 1 (by decide) (hts _ m_f_DK_21) (fun _ h9 => h9) rfl dDK_askPart_1 ?_
    refine lv_iload_n hx hb dDK_askPart_4 rfl (lv_at hl 1 rfl) ?_
    refine k_V (wr := [(a0, .inr (1, [.ref a1, .ref a2, .ref a3, .ref a4, .ref a5])), (a3, .inr (5, [.ref t1])), (t1, .inl (cJ, 8, .inr (.inl tf)))]) (W1 := [(a0, .inr (1, [.ref a1, .ref a2, .ref a3, .ref a4, .ref a5])), (a2, .inr (4, [.ref p1, .ref p2, .ref p3])), (p1, .inl (cJ, 12, .inr (.inl an))), (p2, .inl (cJ, 12, .inr (.inl sm))), (p3, .inl (cI, 12, .inl fl)), (a3, .inr (5, [.ref t1])), (t1, .inl (cJ, 8, .inr (.inl tf)))]) (st1 := [.long (sm k)]) ⟨hx, hb, hml, hown, hts⟩ (k_PT_sumOf l dC dI cI cJ cG cZ a2 p1 p2 p3 an sm fl k hk) (cwV 1 hts (k_gV m_l_DK_87 m_i_PT_sumOf m_s_PT_sumOf m_in_PT m_c_PT_sumOf) rfl rfl rfl (by decide +kernel) ⟨Nat.le_of_ble_eq_true rfl, Nat.le_of_ble_eq_true rfl⟩) hK hF hP hD hS hA [1, 2, 3, 4] [0, 5, 6] [0, 3, 4, 5, 6, 1, 2] rfl rfl (by decide) (by decide) (by decide) rfl (by decide) rfl rfl rfl rfl hl.1 rfl (Nat.le_of_ble_eq_true rfl) dDK_askPart_5 ⟨Nat.le_of_ble_eq_true rfl, Nat.le_of_ble_eq_true rfl⟩ rfl (fun H locs hP hD hS => ?_)
    refine lv_lstore (lv' := [(5, .long (sm k)), (0, .ref a0), (1, .int (nI k)), (2, .int n), (3, .long v)]) hx hb dDK_askPart_8 hl (by decide) rfl (fun ls hl => ?_)
    refine lv_lconst (v := 0) hx hb dDK_askPart_10 (by decide) ?_
    refine lv_lstore (lv' := [(7, .long 0), (5, .long (sm k)), (0, .ref a0), (1, .int (nI k)), (2, .int n), (3, .long v)]) hx hb dDK_askPart_11 hl (by decide) rfl (fun ls hl => ?_)
    refine lv_iconst (v := 0) hx hb dDK_askPart_13 (by decide) ?_
    refine lv_istore (lv' := [(9, .int 0), (7, .long 0), (5, .long (sm k)), (0, .ref a0), (1, .int (nI k)), (2, .int n), (3, .long v)]) hx hb dDK_askPart_14 hl (by decide) rfl (fun ls hl => ?_)
    refine lv_aload_n hx hb dDK_askPart_16 rfl (lv_at hl 3 rfl) ?_
    refine va_get (D := (dC, dI)) (ci := 1) (v := .ref a2) (C := RDK) (T := TDK) (N := 5) hx hb hts inDK hown hK hP 0 rfl rfl 1 (by decide) (hts _ m_f_DK_21) (fun _ h9 => h9) rfl dDK_askPart_17 ?_
    refine lv_iload_n hx hb dDK_askPart_20 rfl (lv_at hl 4 rfl) ?_
    refine lv_iload_n hx hb dDK_askPart_21 rfl (lv_at hl 5 rfl) ?_
    refine lv_lload_n hx hb dDK_askPart_22 rfl (lv_at hl 6 rfl) ?_
    refine k_V (wr := [(a0, .inr (1, [.ref a1, .ref a2, .ref a3, .ref a4, .ref a5])), (a3, .inr (5, [.ref t1])), (t1, .inl (cJ, 8, .inr (.inl tf)))]) (W1 := [(a0, .inr (1, [.ref a1, .ref a2, .ref a3, .ref a4, .ref a5])), (a2, .inr (4, [.ref p1, .ref p2, .ref p3])), (p1, .inl (cJ, 12, .inr (.inl an))), (p2, .inl (cJ, 12, .inr (.inl (vp_updL sm k (sm k + v))))), (p3, .inl (cI, 12, .inl (upd fl k 0))), (a3, .inr (5, [.ref t1])), (t1, .inl (cJ, 8, .inr (.inl tf)))]) (st1 := [.long (an k + 3 * n.toInt64 + (sm k + v))]) ⟨hx, hb, hml, hown, hts⟩ (k_PT_answerTo l dC dI cI cJ cG cZ a2 p1 p2 p3 an sm fl k n v hk hf) (cwV 3 hts (k_gV m_l_DK_90 m_i_PT_answerTo m_s_PT_answerTo m_in_PT m_c_PT_answerTo) rfl rfl rfl (by decide +kernel) ⟨Nat.le_of_ble_eq_true rfl, Nat.le_of_ble_eq_true rfl⟩) hK hF hP hD hS hA [1, 2, 3, 4] [0, 5, 6] [0, 3, 4, 5, 6, 1, 2] rfl rfl (by decide) (by decide) (by decide) rfl (by decide) rfl rfl rfl rfl hl.1 rfl (Nat.le_of_ble_eq_true rfl) dDK_askPart_23 ⟨Nat.le_of_ble_eq_true rfl, Nat.le_of_ble_eq_true rfl⟩ rfl (fun H locs hP hD hS => ?_)
    refine lv_lstore (lv' := [(7, .long (an k + 3 * n.toInt64 + (sm k + v))), (9, .int 0), (5, .long (sm k)), (0, .ref a0), (1, .int (nI k)), (2, .int n), (3, .long v)]) hx hb dDK_askPart_26 hl (by decide) rfl (fun ls hl => ?_)
    refine lv_goto (tgt := 68) hx hb dDK_askPart_28 (by decide) ?_
    refine lv_iload hx hb dDK_askPart_68 (lv_at hl 1 rfl) ?_
    refine lv_if_eq (tgt := 101) hx hb dDK_askPart_70 (by decide) (fun c_1 => ?_) (fun c_1 => ?_)
    · refine lv_aload_n hx hb dDK_askPart_101 rfl (lv_at hl 3 rfl) ?_
      refine va_get (D := (dC, dI)) (ci := 1) (v := .ref a3) (C := RDK) (T := TDK) (N := 5) hx hb hts inDK hown hK hP 0 rfl rfl 2 (by decide) (hts _ m_f_DK_28) (fun _ h9 => h9) rfl dDK_askPart_102 ?_
      refine k_V (wr := [(a0, .inr (1, [.ref a1, .ref a2, .ref a3, .ref a4, .ref a5])), (a2, .inr (4, [.ref p1, .ref p2, .ref p3])), (p1, .inl (cJ, 12, .inr (.inl an))), (p2, .inl (cJ, 12, .inr (.inl (vp_updL sm k (sm k + v))))), (p3, .inl (cI, 12, .inl (upd fl k 0)))]) (W1 := [(a0, .inr (1, [.ref a1, .ref a2, .ref a3, .ref a4, .ref a5])), (a2, .inr (4, [.ref p1, .ref p2, .ref p3])), (p1, .inl (cJ, 12, .inr (.inl an))), (p2, .inl (cJ, 12, .inr (.inl (vp_updL sm k (sm k + v))))), (p3, .inl (cI, 12, .inl (upd fl k 0))), (a3, .inr (5, [.ref t1])), (t1, .inl (cJ, 8, .inr (.inl (vp_updL tf 0 (tf 0 + 1)))))]) (st1 := []) ⟨hx, hb, hml, hown, hts⟩ (k_TL_countAnswered l dC dI cI cJ cG cZ a3 t1 tf) (cwV 0 hts (k_gV m_l_DK_111 m_i_TL_countAnswered m_s_TL_countAnswered m_in_TL m_c_TL_countAnswered) rfl rfl rfl (by decide +kernel) ⟨Nat.le_of_ble_eq_true rfl, Nat.le_of_ble_eq_true rfl⟩) hK hF hP hD hS hA [5, 6] [0, 1, 2, 3, 4] [0, 1, 2, 3, 4, 5, 6] rfl rfl (by decide) (by decide) (by decide) rfl (by decide) rfl rfl rfl rfl hl.1 rfl (Nat.le_of_ble_eq_true rfl) dDK_askPart_105 ⟨Nat.le_of_ble_eq_true rfl, Nat.le_of_ble_eq_true rfl⟩ rfl (fun H locs hP hD hS => ?_)
      refine lv_lload hx hb dDK_askPart_108 (lv_at hl 0 rfl) ?_
      exact k_lret hx hb hr hlocks hP hK hD hS rfl dDK_askPart_110 ⟨Nat.le_of_ble_eq_true rfl, Nat.le_of_ble_eq_true rfl⟩
    · exact absurd (by decide) c_1
  · have hn : ¬ fl k = 0 := by rw [hf]; decide
    rw [show f_apS sm fl k v = vp_updL (vp_updL sm k (sm k + v)) k (sm k) from (if_neg hn).trans (f_back sm k (sm k + v)).symm]
    rw [show f_apT tf fl k n = vp_updL (vp_updL (vp_updL (vp_updL tf 4 (tf 4 + 1)) 5 ((1 : Int32).toInt64)) 6 ((nI k).toInt64)) 7 (n.toInt64) by unfold f_apT; rw [if_neg hn, hf]]
    rw [show f_apA an sm fl k n v = (-100 - (1 : Int32)).toInt64 by unfold f_apA; rw [if_neg hn, hf]]
    refine k_ofH (cc := cDK_askPart) (maxL := 11) (ret := (some .long)) (by decide) rfl (Nat.le_of_ble_eq_true rfl) ?_
    intro p e s m below meth c A ls hx hb hr hlocks hml hown hts hA hP hD hK hF hl hS ht
    have hown : s.vm.findClass RDK = some m.cls := hown
    have hl : lv_has ls 11 [(0, .ref a0), (1, .int (nI k)), (2, .int n), (3, .long v)] := hl
    refine lv_aload_n hx hb dDK_askPart_0 rfl (lv_at hl 0 rfl) ?_
    refine va_get (D := (dC, dI)) (ci := 1) (v := .ref a2) (C := RDK) (T := TDK) (N := 5) hx hb hts inDK hown hK hP 0 rfl rfl 1 (by decide) (hts _ m_f_DK_21) (fun _ h9 => h9) rfl dDK_askPart_1 ?_
    refine lv_iload_n hx hb dDK_askPart_4 rfl (lv_at hl 1 rfl) ?_
    refine k_V (wr := [(a0, .inr (1, [.ref a1, .ref a2, .ref a3, .ref a4, .ref a5])), (a3, .inr (5, [.ref t1])), (t1, .inl (cJ, 8, .inr (.inl tf)))]) (W1 := [(a0, .inr (1, [.ref a1, .ref a2, .ref a3, .ref a4, .ref a5])), (a2, .inr (4, [.ref p1, .ref p2, .ref p3])), (p1, .inl (cJ, 12, .inr (.inl an))), (p2, .inl (cJ, 12, .inr (.inl sm))), (p3, .inl (cI, 12, .inl fl)), (a3, .inr (5, [.ref t1])), (t1, .inl (cJ, 8, .inr (.inl tf)))]) (st1 := [.long (sm k)]) ⟨hx, hb, hml, hown, hts⟩ (k_PT_sumOf l dC dI cI cJ cG cZ a2 p1 p2 p3 an sm fl k hk) (cwV 1 hts (k_gV m_l_DK_87 m_i_PT_sumOf m_s_PT_sumOf m_in_PT m_c_PT_sumOf) rfl rfl rfl (by decide +kernel) ⟨Nat.le_of_ble_eq_true rfl, Nat.le_of_ble_eq_true rfl⟩) hK hF hP hD hS hA [1, 2, 3, 4] [0, 5, 6] [0, 3, 4, 5, 6, 1, 2] rfl rfl (by decide) (by decide) (by decide) rfl (by decide) rfl rfl rfl rfl hl.1 rfl (Nat.le_of_ble_eq_true rfl) dDK_askPart_5 ⟨Nat.le_of_ble_eq_true rfl, Nat.le_of_ble_eq_true rfl⟩ rfl (fun H locs hP hD hS => ?_)
    refine lv_lstore (lv' := [(5, .long (sm k)), (0, .ref a0), (1, .int (nI k)), (2, .int n), (3, .long v)]) hx hb dDK_askPart_8 hl (by decide) rfl (fun ls hl => ?_)
    refine lv_lconst (v := 0) hx hb dDK_askPart_10 (by decide) ?_
    refine lv_lstore (lv' := [(7, .long 0), (5, .long (sm k)), (0, .ref a0), (1, .int (nI k)), (2, .int n), (3, .long v)]) hx hb dDK_askPart_11 hl (by decide) rfl (fun ls hl => ?_)
    refine lv_iconst (v := 0) hx hb dDK_askPart_13 (by decide) ?_
    refine lv_istore (lv' := [(9, .int 0), (7, .long 0), (5, .long (sm k)), (0, .ref a0), (1, .int (nI k)), (2, .int n), (3, .long v)]) hx hb dDK_askPart_14 hl (by decide) rfl (fun ls hl => ?_)
    refine lv_aload_n hx hb dDK_askPart_16 rfl (lv_at hl 3 rfl) ?_
    refine va_get (D := (dC, dI)) (ci := 1) (v := .ref a2) (C := RDK) (T := TDK) (N := 5) hx hb hts inDK hown hK hP 0 rfl rfl 1 (by decide) (hts _ m_f_DK_21) (fun _ h9 => h9) rfl dDK_askPart_17 ?_
    refine lv_iload_n hx hb dDK_askPart_20 rfl (lv_at hl 4 rfl) ?_
    refine lv_iload_n hx hb dDK_askPart_21 rfl (lv_at hl 5 rfl) ?_
    refine lv_lload_n hx hb dDK_askPart_22 rfl (lv_at hl 6 rfl) ?_
    refine k_VT (wr := [(a0, .inr (1, [.ref a1, .ref a2, .ref a3, .ref a4, .ref a5])), (a3, .inr (5, [.ref t1])), (t1, .inl (cJ, 8, .inr (.inl tf)))]) (W1 := [(a0, .inr (1, [.ref a1, .ref a2, .ref a3, .ref a4, .ref a5])), (a2, .inr (4, [.ref p1, .ref p2, .ref p3])), (p1, .inl (cJ, 12, .inr (.inl an))), (p2, .inl (cJ, 12, .inr (.inl (vp_updL sm k (sm k + v))))), (p3, .inl (cI, 12, .inl (upd fl k 0))), (a3, .inr (5, [.ref t1])), (t1, .inl (cJ, 8, .inr (.inl tf)))]) (rest := []) ⟨hx, hb, hml, hown, hts⟩ (k_PT_answerTo_1 l dC dI cI cJ cG cZ a2 p1 p2 p3 an sm fl k n v hk hf hlt) (cwV 3 hts (k_gV m_l_DK_90 m_i_PT_answerTo m_s_PT_answerTo m_in_PT m_c_PT_answerTo) rfl rfl rfl (by decide +kernel) ⟨Nat.le_of_ble_eq_true rfl, Nat.le_of_ble_eq_true rfl⟩) hK hF hP hD hS hA [1, 2, 3, 4] [0, 5, 6] [0, 3, 4, 5, 6, 1, 2] rfl rfl (by decide) (by decide) (by decide) rfl (by decide) rfl rfl rfl rfl hl.1 rfl (Nat.le_of_ble_eq_true rfl) dDK_askPart_23 ⟨Nat.le_of_ble_eq_true rfl, Nat.le_of_ble_eq_true rfl⟩ (fun q9 ce H locs hP hD hS hce hcv hcl => ?_)
    refine k_catch (own := RDK) hown hts hF [] (⟨16, 28, 31, 93⟩ : ExceptionTableEntry) [(⟨16, 28, 39, 95⟩ : ExceptionTableEntry), (⟨16, 28, 47, 97⟩ : ExceptionTableEntry), (⟨16, 28, 55, 99⟩ : ExceptionTableEntry), (⟨16, 28, 63, 101⟩ : ExceptionTableEntry)] ht (fun _ h => absurd h List.not_mem_nil) (by decide) (by decide) m_cl_DK_93 (by decide) hce hcv hcl ?_
    refine lv_astore (lv' := [(10, .ref q9), (9, .int 0), (7, .long 0), (5, .long (sm k)), (0, .ref a0), (1, .int (nI k)), (2, .int n), (3, .long v)]) hx hb dDK_askPart_31 hl (by decide) rfl (fun ls hl => ?_)
    refine lv_iconst (v := 1) hx hb dDK_askPart_33 (by decide) ?_
    refine lv_istore (lv' := [(9, .int 1), (10, .ref q9), (7, .long 0), (5, .long (sm k)), (0, .ref a0), (1, .int (nI k)), (2, .int n), (3, .long v)]) hx hb dDK_askPart_34 hl (by decide) rfl (fun ls hl => ?_)
    refine lv_goto (tgt := 68) hx hb dDK_askPart_36 (by decide) ?_
    refine lv_iload hx hb dDK_askPart_68 (lv_at hl 0 rfl) ?_
    refine lv_if_eq (tgt := 101) hx hb dDK_askPart_70 (by decide) (fun c_1 => ?_) (fun c_1 => ?_)
    · exact absurd c_1 (by decide)
    · refine lv_aload_n hx hb dDK_askPart_73 rfl (lv_at hl 4 rfl) ?_
      refine va_get (D := (dC, dI)) (ci := 1) (v := .ref a2) (C := RDK) (T := TDK) (N := 5) hx hb hts inDK hown hK hP 0 rfl rfl 1 (by decide) (hts _ m_f_DK_21) (fun _ h9 => h9) rfl dDK_askPart_74 ?_
      refine lv_iload_n hx hb dDK_askPart_77 rfl (lv_at hl 5 rfl) ?_
      refine lv_lload hx hb dDK_askPart_78 (lv_at hl 3 rfl) ?_
      refine k_V (wr := [(a0, .inr (1, [.ref a1, .ref a2, .ref a3, .ref a4, .ref a5])), (a3, .inr (5, [.ref t1])), (t1, .inl (cJ, 8, .inr (.inl tf)))]) (W1 := [(a0, .inr (1, [.ref a1, .ref a2, .ref a3, .ref a4, .ref a5])), (a2, .inr (4, [.ref p1, .ref p2, .ref p3])), (p1, .inl (cJ, 12, .inr (.inl an))), (p2, .inl (cJ, 12, .inr (.inl (vp_updL (vp_updL sm k (sm k + v)) k (sm k))))), (p3, .inl (cI, 12, .inl (upd fl k 0))), (a3, .inr (5, [.ref t1])), (t1, .inl (cJ, 8, .inr (.inl tf)))]) (st1 := []) ⟨hx, hb, hml, hown, hts⟩ (k_PT_restoreSum l dC dI cI cJ cG cZ a2 p1 p2 p3 an (vp_updL sm k (sm k + v)) (upd fl k 0) k (sm k) hk) (cwV 2 hts (k_gV m_l_DK_103 m_i_PT_restoreSum m_s_PT_restoreSum m_in_PT m_c_PT_restoreSum) rfl rfl rfl (by decide +kernel) ⟨Nat.le_of_ble_eq_true rfl, Nat.le_of_ble_eq_true rfl⟩) hK hF hP hD hS hA [1, 2, 3, 4] [0, 5, 6] [0, 3, 4, 5, 6, 1, 2] rfl rfl (by decide) (by decide) (by decide) rfl (by decide) rfl rfl rfl rfl hl.1 rfl (Nat.le_of_ble_eq_true rfl) dDK_askPart_80 ⟨Nat.le_of_ble_eq_true rfl, Nat.le_of_ble_eq_true rfl⟩ rfl (fun H locs hP hD hS => ?_)
      refine lv_aload_n hx hb dDK_askPart_83 rfl (lv_at hl 4 rfl) ?_
      refine va_get (D := (dC, dI)) (ci := 1) (v := .ref a3) (C := RDK) (T := TDK) (N := 5) hx hb hts inDK hown hK hP 0 rfl rfl 2 (by decide) (hts _ m_f_DK_28) (fun _ h9 => h9) rfl dDK_askPart_84 ?_
      refine lv_iload hx hb dDK_askPart_87 (lv_at hl 0 rfl) ?_
      refine lv_iload_n hx hb dDK_askPart_89 rfl (lv_at hl 5 rfl) ?_
      refine lv_iload_n hx hb dDK_askPart_90 rfl (lv_at hl 6 rfl) ?_
      refine k_V (wr := [(a0, .inr (1, [.ref a1, .ref a2, .ref a3, .ref a4, .ref a5])), (a2, .inr (4, [.ref p1, .ref p2, .ref p3])), (p1, .inl (cJ, 12, .inr (.inl an))), (p2, .inl (cJ, 12, .inr (.inl (vp_updL (vp_updL sm k (sm k + v)) k (sm k))))), (p3, .inl (cI, 12, .inl (upd fl k 0)))]) (W1 := [(a0, .inr (1, [.ref a1, .ref a2, .ref a3, .ref a4, .ref a5])), (a2, .inr (4, [.ref p1, .ref p2, .ref p3])), (p1, .inl (cJ, 12, .inr (.inl an))), (p2, .inl (cJ, 12, .inr (.inl (vp_updL (vp_updL sm k (sm k + v)) k (sm k))))), (p3, .inl (cI, 12, .inl (upd fl k 0))), (a3, .inr (5, [.ref t1])), (t1, .inl (cJ, 8, .inr (.inl (vp_updL (vp_updL (vp_updL (vp_updL tf 4 (tf 4 + 1)) 5 ((1 : Int32).toInt64)) 6 ((nI k).toInt64)) 7 (n.toInt64)))))]) (st1 := []) ⟨hx, hb, hml, hown, hts⟩ (k_TL_countFailure l dC dI cI cJ cG cZ a3 t1 tf 1 (nI k) n) (cwV 3 hts (k_gV m_l_DK_107 m_i_TL_countFailure m_s_TL_countFailure m_in_TL m_c_TL_countFailure) rfl rfl rfl (by decide +kernel) ⟨Nat.le_of_ble_eq_true rfl, Nat.le_of_ble_eq_true rfl⟩) hK hF hP hD hS hA [5, 6] [0, 1, 2, 3, 4] [0, 1, 2, 3, 4, 5, 6] rfl rfl (by decide) (by decide) (by decide) rfl (by decide) rfl rfl rfl rfl hl.1 rfl (Nat.le_of_ble_eq_true rfl) dDK_askPart_91 ⟨Nat.le_of_ble_eq_true rfl, Nat.le_of_ble_eq_true rfl⟩ rfl (fun H locs hP hD hS => ?_)
      refine lv_bipush (v := (-100)) hx hb dDK_askPart_94 (by decide) ?_
      refine lv_iload hx hb dDK_askPart_96 (lv_at hl 0 rfl) ?_
      refine lv_isub hx hb dDK_askPart_98 ?_
      refine lv_i2l hx hb dDK_askPart_99 rfl ?_
      exact k_lret hx hb hr hlocks hP hK hD hS rfl dDK_askPart_100 ⟨Nat.le_of_ble_eq_true rfl, Nat.le_of_ble_eq_true rfl⟩
  · have hn : ¬ fl k = 0 := by rw [hf]; decide
    rw [show f_apS sm fl k v = vp_updL (vp_updL sm k (sm k + v)) k (sm k) from (if_neg hn).trans (f_back sm k (sm k + v)).symm]
    rw [show f_apT tf fl k n = vp_updL (vp_updL (vp_updL (vp_updL tf 4 (tf 4 + 1)) 5 ((2 : Int32).toInt64)) 6 ((nI k).toInt64)) 7 (n.toInt64) by unfold f_apT; rw [if_neg hn, hf]]
    rw [show f_apA an sm fl k n v = (-100 - (2 : Int32)).toInt64 by unfold f_apA; rw [if_neg hn, hf]]
    refine k_ofH (cc := cDK_askPart) (maxL := 11) (ret := (some .long)) (by decide) rfl (Nat.le_of_ble_eq_true rfl) ?_
    intro p e s m below meth c A ls hx hb hr hlocks hml hown hts hA hP hD hK hF hl hS ht
    have hown : s.vm.findClass RDK = some m.cls := hown
    have hl : lv_has ls 11 [(0, .ref a0), (1, .int (nI k)), (2, .int n), (3, .long v)] := hl
    refine lv_aload_n hx hb dDK_askPart_0 rfl (lv_at hl 0 rfl) ?_
    refine va_get (D := (dC, dI)) (ci := 1) (v := .ref a2) (C := RDK) (T := TDK) (N := 5) hx hb hts inDK hown hK hP 0 rfl rfl 1 (by decide) (hts _ m_f_DK_21) (fun _ h9 => h9) rfl dDK_askPart_1 ?_
    refine lv_iload_n hx hb dDK_askPart_4 rfl (lv_at hl 1 rfl) ?_
    refine k_V (wr := [(a0, .inr (1, [.ref a1, .ref a2, .ref a3, .ref a4, .ref a5])), (a3, .inr (5, [.ref t1])), (t1, .inl (cJ, 8, .inr (.inl tf)))]) (W1 := [(a0, .inr (1, [.ref a1, .ref a2, .ref a3, .ref a4, .ref a5])), (a2, .inr (4, [.ref p1, .ref p2, .ref p3])), (p1, .inl (cJ, 12, .inr (.inl an))), (p2, .inl (cJ, 12, .inr (.inl sm))), (p3, .inl (cI, 12, .inl fl)), (a3, .inr (5, [.ref t1])), (t1, .inl (cJ, 8, .inr (.inl tf)))]) (st1 := [.long (sm k)]) ⟨hx, hb, hml, hown, hts⟩ (k_PT_sumOf l dC dI cI cJ cG cZ a2 p1 p2 p3 an sm fl k hk) (cwV 1 hts (k_gV m_l_DK_87 m_i_PT_sumOf m_s_PT_sumOf m_in_PT m_c_PT_sumOf) rfl rfl rfl (by decide +kernel) ⟨Nat.le_of_ble_eq_true rfl, Nat.le_of_ble_eq_true rfl⟩) hK hF hP hD hS hA [1, 2, 3, 4] [0, 5, 6] [0, 3, 4, 5, 6, 1, 2] rfl rfl (by decide) (by decide) (by decide) rfl (by decide) rfl rfl rfl rfl hl.1 rfl (Nat.le_of_ble_eq_true rfl) dDK_askPart_5 ⟨Nat.le_of_ble_eq_true rfl, Nat.le_of_ble_eq_true rfl⟩ rfl (fun H locs hP hD hS => ?_)
    refine lv_lstore (lv' := [(5, .long (sm k)), (0, .ref a0), (1, .int (nI k)), (2, .int n), (3, .long v)]) hx hb dDK_askPart_8 hl (by decide) rfl (fun ls hl => ?_)
    refine lv_lconst (v := 0) hx hb dDK_askPart_10 (by decide) ?_
    refine lv_lstore (lv' := [(7, .long 0), (5, .long (sm k)), (0, .ref a0), (1, .int (nI k)), (2, .int n), (3, .long v)]) hx hb dDK_askPart_11 hl (by decide) rfl (fun ls hl => ?_)
    refine lv_iconst (v := 0) hx hb dDK_askPart_13 (by decide) ?_
    refine lv_istore (lv' := [(9, .int 0), (7, .long 0), (5, .long (sm k)), (0, .ref a0), (1, .int (nI k)), (2, .int n), (3, .long v)]) hx hb dDK_askPart_14 hl (by decide) rfl (fun ls hl => ?_)
    refine lv_aload_n hx hb dDK_askPart_16 rfl (lv_at hl 3 rfl) ?_
    refine va_get (D := (dC, dI)) (ci := 1) (v := .ref a2) (C := RDK) (T := TDK) (N := 5) hx hb hts inDK hown hK hP 0 rfl rfl 1 (by decide) (hts _ m_f_DK_21) (fun _ h9 => h9) rfl dDK_askPart_17 ?_
    refine lv_iload_n hx hb dDK_askPart_20 rfl (lv_at hl 4 rfl) ?_
    refine lv_iload_n hx hb dDK_askPart_21 rfl (lv_at hl 5 rfl) ?_
    refine lv_lload_n hx hb dDK_askPart_22 rfl (lv_at hl 6 rfl) ?_
    refine k_VT (wr := [(a0, .inr (1, [.ref a1, .ref a2, .ref a3, .ref a4, .ref a5])), (a3, .inr (5, [.ref t1])), (t1, .inl (cJ, 8, .inr (.inl tf)))]) (W1 := [(a0, .inr (1, [.ref a1, .ref a2, .ref a3, .ref a4, .ref a5])), (a2, .inr (4, [.ref p1, .ref p2, .ref p3])), (p1, .inl (cJ, 12, .inr (.inl an))), (p2, .inl (cJ, 12, .inr (.inl (vp_updL sm k (sm k + v))))), (p3, .inl (cI, 12, .inl (upd fl k 0))), (a3, .inr (5, [.ref t1])), (t1, .inl (cJ, 8, .inr (.inl tf)))]) (rest := []) ⟨hx, hb, hml, hown, hts⟩ (k_PT_answerTo_2 l dC dI cI cJ cG cZ a2 p1 p2 p3 an sm fl k n v hk hf hlt) (cwV 3 hts (k_gV m_l_DK_90 m_i_PT_answerTo m_s_PT_answerTo m_in_PT m_c_PT_answerTo) rfl rfl rfl (by decide +kernel) ⟨Nat.le_of_ble_eq_true rfl, Nat.le_of_ble_eq_true rfl⟩) hK hF hP hD hS hA [1, 2, 3, 4] [0, 5, 6] [0, 3, 4, 5, 6, 1, 2] rfl rfl (by decide) (by decide) (by decide) rfl (by decide) rfl rfl rfl rfl hl.1 rfl (Nat.le_of_ble_eq_true rfl) dDK_askPart_23 ⟨Nat.le_of_ble_eq_true rfl, Nat.le_of_ble_eq_true rfl⟩ (fun q9 ce H locs hP hD hS hce hcv hcl => ?_)
    refine k_catch (own := RDK) hown hts hF [(⟨16, 28, 31, 93⟩ : ExceptionTableEntry)] (⟨16, 28, 39, 95⟩ : ExceptionTableEntry) [(⟨16, 28, 47, 97⟩ : ExceptionTableEntry), (⟨16, 28, 55, 99⟩ : ExceptionTableEntry), (⟨16, 28, 63, 101⟩ : ExceptionTableEntry)] ht (List.forall_mem_cons.mpr ⟨Or.inr ⟨by decide, _, m_cl_DK_93, by decide⟩, fun _ h => absurd h List.not_mem_nil⟩) (by decide) (by decide) m_cl_DK_95 (by decide) hce hcv hcl ?_
    refine lv_astore (lv' := [(10, .ref q9), (9, .int 0), (7, .long 0), (5, .long (sm k)), (0, .ref a0), (1, .int (nI k)), (2, .int n), (3, .long v)]) hx hb dDK_askPart_39 hl (by decide) rfl (fun ls hl => ?_)
    refine lv_iconst (v := 2) hx hb dDK_askPart_41 (by decide) ?_
    refine lv_istore (lv' := [(9, .int 2), (10, .ref q9), (7, .long 0), (5, .long (sm k)), (0, .ref a0), (1, .int (nI k)), (2, .int n), (3, .long v)]) hx hb dDK_askPart_42 hl (by decide) rfl (fun ls hl => ?_)
    refine lv_goto (tgt := 68) hx hb dDK_askPart_44 (by decide) ?_
    refine lv_iload hx hb dDK_askPart_68 (lv_at hl 0 rfl) ?_
    refine lv_if_eq (tgt := 101) hx hb dDK_askPart_70 (by decide) (fun c_1 => ?_) (fun c_1 => ?_)
    · exact absurd c_1 (by decide)
    · refine lv_aload_n hx hb dDK_askPart_73 rfl (lv_at hl 4 rfl) ?_
      refine va_get (D := (dC, dI)) (ci := 1) (v := .ref a2) (C := RDK) (T := TDK) (N := 5) hx hb hts inDK hown hK hP 0 rfl rfl 1 (by decide) (hts _ m_f_DK_21) (fun _ h9 => h9) rfl dDK_askPart_74 ?_
      refine lv_iload_n hx hb dDK_askPart_77 rfl (lv_at hl 5 rfl) ?_
      refine lv_lload hx hb dDK_askPart_78 (lv_at hl 3 rfl) ?_
      refine k_V (wr := [(a0, .inr (1, [.ref a1, .ref a2, .ref a3, .ref a4, .ref a5])), (a3, .inr (5, [.ref t1])), (t1, .inl (cJ, 8, .inr (.inl tf)))]) (W1 := [(a0, .inr (1, [.ref a1, .ref a2, .ref a3, .ref a4, .ref a5])), (a2, .inr (4, [.ref p1, .ref p2, .ref p3])), (p1, .inl (cJ, 12, .inr (.inl an))), (p2, .inl (cJ, 12, .inr (.inl (vp_updL (vp_updL sm k (sm k + v)) k (sm k))))), (p3, .inl (cI, 12, .inl (upd fl k 0))), (a3, .inr (5, [.ref t1])), (t1, .inl (cJ, 8, .inr (.inl tf)))]) (st1 := []) ⟨hx, hb, hml, hown, hts⟩ (k_PT_restoreSum l dC dI cI cJ cG cZ a2 p1 p2 p3 an (vp_updL sm k (sm k + v)) (upd fl k 0) k (sm k) hk) (cwV 2 hts (k_gV m_l_DK_103 m_i_PT_restoreSum m_s_PT_restoreSum m_in_PT m_c_PT_restoreSum) rfl rfl rfl (by decide +kernel) ⟨Nat.le_of_ble_eq_true rfl, Nat.le_of_ble_eq_true rfl⟩) hK hF hP hD hS hA [1, 2, 3, 4] [0, 5, 6] [0, 3, 4, 5, 6, 1, 2] rfl rfl (by decide) (by decide) (by decide) rfl (by decide) rfl rfl rfl rfl hl.1 rfl (Nat.le_of_ble_eq_true rfl) dDK_askPart_80 ⟨Nat.le_of_ble_eq_true rfl, Nat.le_of_ble_eq_true rfl⟩ rfl (fun H locs hP hD hS => ?_)
      refine lv_aload_n hx hb dDK_askPart_83 rfl (lv_at hl 4 rfl) ?_
      refine va_get (D := (dC, dI)) (ci := 1) (v := .ref a3) (C := RDK) (T := TDK) (N := 5) hx hb hts inDK hown hK hP 0 rfl rfl 2 (by decide) (hts _ m_f_DK_28) (fun _ h9 => h9) rfl dDK_askPart_84 ?_
      refine lv_iload hx hb dDK_askPart_87 (lv_at hl 0 rfl) ?_
      refine lv_iload_n hx hb dDK_askPart_89 rfl (lv_at hl 5 rfl) ?_
      refine lv_iload_n hx hb dDK_askPart_90 rfl (lv_at hl 6 rfl) ?_
      refine k_V (wr := [(a0, .inr (1, [.ref a1, .ref a2, .ref a3, .ref a4, .ref a5])), (a2, .inr (4, [.ref p1, .ref p2, .ref p3])), (p1, .inl (cJ, 12, .inr (.inl an))), (p2, .inl (cJ, 12, .inr (.inl (vp_updL (vp_updL sm k (sm k + v)) k (sm k))))), (p3, .inl (cI, 12, .inl (upd fl k 0)))]) (W1 := [(a0, .inr (1, [.ref a1, .ref a2, .ref a3, .ref a4, .ref a5])), (a2, .inr (4, [.ref p1, .ref p2, .ref p3])), (p1, .inl (cJ, 12, .inr (.inl an))), (p2, .inl (cJ, 12, .inr (.inl (vp_updL (vp_updL sm k (sm k + v)) k (sm k))))), (p3, .inl (cI, 12, .inl (upd fl k 0))), (a3, .inr (5, [.ref t1])), (t1, .inl (cJ, 8, .inr (.inl (vp_updL (vp_updL (vp_updL (vp_updL tf 4 (tf 4 + 1)) 5 ((2 : Int32).toInt64)) 6 ((nI k).toInt64)) 7 (n.toInt64)))))]) (st1 := []) ⟨hx, hb, hml, hown, hts⟩ (k_TL_countFailure l dC dI cI cJ cG cZ a3 t1 tf 2 (nI k) n) (cwV 3 hts (k_gV m_l_DK_107 m_i_TL_countFailure m_s_TL_countFailure m_in_TL m_c_TL_countFailure) rfl rfl rfl (by decide +kernel) ⟨Nat.le_of_ble_eq_true rfl, Nat.le_of_ble_eq_true rfl⟩) hK hF hP hD hS hA [5, 6] [0, 1, 2, 3, 4] [0, 1, 2, 3, 4, 5, 6] rfl rfl (by decide) (by decide) (by decide) rfl (by decide) rfl rfl rfl rfl hl.1 rfl (Nat.le_of_ble_eq_true rfl) dDK_askPart_91 ⟨Nat.le_of_ble_eq_true rfl, Nat.le_of_ble_eq_true rfl⟩ rfl (fun H locs hP hD hS => ?_)
      refine lv_bipush (v := (-100)) hx hb dDK_askPart_94 (by decide) ?_
      refine lv_iload hx hb dDK_askPart_96 (lv_at hl 0 rfl) ?_
      refine lv_isub hx hb dDK_askPart_98 ?_
      refine lv_i2l hx hb dDK_askPart_99 rfl ?_
      exact k_lret hx hb hr hlocks hP hK hD hS rfl dDK_askPart_100 ⟨Nat.le_of_ble_eq_true rfl, Nat.le_of_ble_eq_true rfl⟩
  · have hn : ¬ fl k = 0 := by rw [hf]; decide
    rw [show f_apS sm fl k v = vp_updL (vp_updL sm k (sm k + v)) k (sm k) from (if_neg hn).trans (f_back sm k (sm k + v)).symm]
    rw [show f_apT tf fl k n = vp_updL (vp_updL (vp_updL (vp_updL tf 4 (tf 4 + 1)) 5 ((3 : Int32).toInt64)) 6 ((nI k).toInt64)) 7 (n.toInt64) by unfold f_apT; rw [if_neg hn, hf]]
    rw [show f_apA an sm fl k n v = (-100 - (3 : Int32)).toInt64 by unfold f_apA; rw [if_neg hn, hf]]
    refine k_ofH (cc := cDK_askPart) (maxL := 11) (ret := (some .long)) (by decide) rfl (Nat.le_of_ble_eq_true rfl) ?_
    intro p e s m below meth c A ls hx hb hr hlocks hml hown hts hA hP hD hK hF hl hS ht
    have hown : s.vm.findClass RDK = some m.cls := hown
    have hl : lv_has ls 11 [(0, .ref a0), (1, .int (nI k)), (2, .int n), (3, .long v)] := hl
    refine lv_aload_n hx hb dDK_askPart_0 rfl (lv_at hl 0 rfl) ?_
    refine va_get (D := (dC, dI)) (ci := 1) (v := .ref a2) (C := RDK) (T := TDK) (N := 5) hx hb hts inDK hown hK hP 0 rfl rfl 1 (by decide) (hts _ m_f_DK_21) (fun _ h9 => h9) rfl dDK_askPart_1 ?_
    refine lv_iload_n hx hb dDK_askPart_4 rfl (lv_at hl 1 rfl) ?_
    refine k_V (wr := [(a0, .inr (1, [.ref a1, .ref a2, .ref a3, .ref a4, .ref a5])), (a3, .inr (5, [.ref t1])), (t1, .inl (cJ, 8, .inr (.inl tf)))]) (W1 := [(a0, .inr (1, [.ref a1, .ref a2, .ref a3, .ref a4, .ref a5])), (a2, .inr (4, [.ref p1, .ref p2, .ref p3])), (p1, .inl (cJ, 12, .inr (.inl an))), (p2, .inl (cJ, 12, .inr (.inl sm))), (p3, .inl (cI, 12, .inl fl)), (a3, .inr (5, [.ref t1])), (t1, .inl (cJ, 8, .inr (.inl tf)))]) (st1 := [.long (sm k)]) ⟨hx, hb, hml, hown, hts⟩ (k_PT_sumOf l dC dI cI cJ cG cZ a2 p1 p2 p3 an sm fl k hk) (cwV 1 hts (k_gV m_l_DK_87 m_i_PT_sumOf m_s_PT_sumOf m_in_PT m_c_PT_sumOf) rfl rfl rfl (by decide +kernel) ⟨Nat.le_of_ble_eq_true rfl, Nat.le_of_ble_eq_true rfl⟩) hK hF hP hD hS hA [1, 2, 3, 4] [0, 5, 6] [0, 3, 4, 5, 6, 1, 2] rfl rfl (by decide) (by decide) (by decide) rfl (by decide) rfl rfl rfl rfl hl.1 rfl (Nat.le_of_ble_eq_true rfl) dDK_askPart_5 ⟨Nat.le_of_ble_eq_true rfl, Nat.le_of_ble_eq_true rfl⟩ rfl (fun H locs hP hD hS => ?_)
    refine lv_lstore (lv' := [(5, .long (sm k)), (0, .ref a0), (1, .int (nI k)), (2, .int n), (3, .long v)]) hx hb dDK_askPart_8 hl (by decide) rfl (fun ls hl => ?_)
    refine lv_lconst (v := 0) hx hb dDK_askPart_10 (by decide) ?_
    refine lv_lstore (lv' := [(7, .long 0), (5, .long (sm k)), (0, .ref a0), (1, .int (nI k)), (2, .int n), (3, .long v)]) hx hb dDK_askPart_11 hl (by decide) rfl (fun ls hl => ?_)
    refine lv_iconst (v := 0) hx hb dDK_askPart_13 (by decide) ?_
    refine lv_istore (lv' := [(9, .int 0), (7, .long 0), (5, .long (sm k)), (0, .ref a0), (1, .int (nI k)), (2, .int n), (3, .long v)]) hx hb dDK_askPart_14 hl (by decide) rfl (fun ls hl => ?_)
    refine lv_aload_n hx hb dDK_askPart_16 rfl (lv_at hl 3 rfl) ?_
    refine va_get (D := (dC, dI)) (ci := 1) (v := .ref a2) (C := RDK) (T := TDK) (N := 5) hx hb hts inDK hown hK hP 0 rfl rfl 1 (by decide) (hts _ m_f_DK_21) (fun _ h9 => h9) rfl dDK_askPart_17 ?_
    refine lv_iload_n hx hb dDK_askPart_20 rfl (lv_at hl 4 rfl) ?_
    refine lv_iload_n hx hb dDK_askPart_21 rfl (lv_at hl 5 rfl) ?_
    refine lv_lload_n hx hb dDK_askPart_22 rfl (lv_at hl 6 rfl) ?_
    refine k_VT (wr := [(a0, .inr (1, [.ref a1, .ref a2, .ref a3, .ref a4, .ref a5])), (a3, .inr (5, [.ref t1])), (t1, .inl (cJ, 8, .inr (.inl tf)))]) (W1 := [(a0, .inr (1, [.ref a1, .ref a2, .ref a3, .ref a4, .ref a5])), (a2, .inr (4, [.ref p1, .ref p2, .ref p3])), (p1, .inl (cJ, 12, .inr (.inl an))), (p2, .inl (cJ, 12, .inr (.inl (vp_updL sm k (sm k + v))))), (p3, .inl (cI, 12, .inl (upd fl k 0))), (a3, .inr (5, [.ref t1])), (t1, .inl (cJ, 8, .inr (.inl tf)))]) (rest := []) ⟨hx, hb, hml, hown, hts⟩ (k_PT_answerTo_3 l dC dI cI cJ cG cZ a2 p1 p2 p3 an sm fl k n v hk hf hlt) (cwV 3 hts (k_gV m_l_DK_90 m_i_PT_answerTo m_s_PT_answerTo m_in_PT m_c_PT_answerTo) rfl rfl rfl (by decide +kernel) ⟨Nat.le_of_ble_eq_true rfl, Nat.le_of_ble_eq_true rfl⟩) hK hF hP hD hS hA [1, 2, 3, 4] [0, 5, 6] [0, 3, 4, 5, 6, 1, 2] rfl rfl (by decide) (by decide) (by decide) rfl (by decide) rfl rfl rfl rfl hl.1 rfl (Nat.le_of_ble_eq_true rfl) dDK_askPart_23 ⟨Nat.le_of_ble_eq_true rfl, Nat.le_of_ble_eq_true rfl⟩ (fun q9 ce H locs hP hD hS hce hcv hcl => ?_)
    refine k_catch (own := RDK) hown hts hF [(⟨16, 28, 31, 93⟩ : ExceptionTableEntry), (⟨16, 28, 39, 95⟩ : ExceptionTableEntry)] (⟨16, 28, 47, 97⟩ : ExceptionTableEntry) [(⟨16, 28, 55, 99⟩ : ExceptionTableEntry), (⟨16, 28, 63, 101⟩ : ExceptionTableEntry)] ht (List.forall_mem_cons.mpr ⟨Or.inr ⟨by decide, _, m_cl_DK_93, by decide⟩, List.forall_mem_cons.mpr ⟨Or.inr ⟨by decide, _, m_cl_DK_95, by decide⟩, fun _ h => absurd h List.not_mem_nil⟩⟩) (by decide) (by decide) m_cl_DK_97 (by decide) hce hcv hcl ?_
    refine lv_astore (lv' := [(10, .ref q9), (9, .int 0), (7, .long 0), (5, .long (sm k)), (0, .ref a0), (1, .int (nI k)), (2, .int n), (3, .long v)]) hx hb dDK_askPart_47 hl (by decide) rfl (fun ls hl => ?_)
    refine lv_iconst (v := 3) hx hb dDK_askPart_49 (by decide) ?_
    refine lv_istore (lv' := [(9, .int 3), (10, .ref q9), (7, .long 0), (5, .long (sm k)), (0, .ref a0), (1, .int (nI k)), (2, .int n), (3, .long v)]) hx hb dDK_askPart_50 hl (by decide) rfl (fun ls hl => ?_)
    refine lv_goto (tgt := 68) hx hb dDK_askPart_52 (by decide) ?_
    refine lv_iload hx hb dDK_askPart_68 (lv_at hl 0 rfl) ?_
    refine lv_if_eq (tgt := 101) hx hb dDK_askPart_70 (by decide) (fun c_1 => ?_) (fun c_1 => ?_)
    · exact absurd c_1 (by decide)
    · refine lv_aload_n hx hb dDK_askPart_73 rfl (lv_at hl 4 rfl) ?_
      refine va_get (D := (dC, dI)) (ci := 1) (v := .ref a2) (C := RDK) (T := TDK) (N := 5) hx hb hts inDK hown hK hP 0 rfl rfl 1 (by decide) (hts _ m_f_DK_21) (fun _ h9 => h9) rfl dDK_askPart_74 ?_
      refine lv_iload_n hx hb dDK_askPart_77 rfl (lv_at hl 5 rfl) ?_
      refine lv_lload hx hb dDK_askPart_78 (lv_at hl 3 rfl) ?_
      refine k_V (wr := [(a0, .inr (1, [.ref a1, .ref a2, .ref a3, .ref a4, .ref a5])), (a3, .inr (5, [.ref t1])), (t1, .inl (cJ, 8, .inr (.inl tf)))]) (W1 := [(a0, .inr (1, [.ref a1, .ref a2, .ref a3, .ref a4, .ref a5])), (a2, .inr (4, [.ref p1, .ref p2, .ref p3])), (p1, .inl (cJ, 12, .inr (.inl an))), (p2, .inl (cJ, 12, .inr (.inl (vp_updL (vp_updL sm k (sm k + v)) k (sm k))))), (p3, .inl (cI, 12, .inl (upd fl k 0))), (a3, .inr (5, [.ref t1])), (t1, .inl (cJ, 8, .inr (.inl tf)))]) (st1 := []) ⟨hx, hb, hml, hown, hts⟩ (k_PT_restoreSum l dC dI cI cJ cG cZ a2 p1 p2 p3 an (vp_updL sm k (sm k + v)) (upd fl k 0) k (sm k) hk) (cwV 2 hts (k_gV m_l_DK_103 m_i_PT_restoreSum m_s_PT_restoreSum m_in_PT m_c_PT_restoreSum) rfl rfl rfl (by decide +kernel) ⟨Nat.le_of_ble_eq_true rfl, Nat.le_of_ble_eq_true rfl⟩) hK hF hP hD hS hA [1, 2, 3, 4] [0, 5, 6] [0, 3, 4, 5, 6, 1, 2] rfl rfl (by decide) (by decide) (by decide) rfl (by decide) rfl rfl rfl rfl hl.1 rfl (Nat.le_of_ble_eq_true rfl) dDK_askPart_80 ⟨Nat.le_of_ble_eq_true rfl, Nat.le_of_ble_eq_true rfl⟩ rfl (fun H locs hP hD hS => ?_)
      refine lv_aload_n hx hb dDK_askPart_83 rfl (lv_at hl 4 rfl) ?_
      refine va_get (D := (dC, dI)) (ci := 1) (v := .ref a3) (C := RDK) (T := TDK) (N := 5) hx hb hts inDK hown hK hP 0 rfl rfl 2 (by decide) (hts _ m_f_DK_28) (fun _ h9 => h9) rfl dDK_askPart_84 ?_
      refine lv_iload hx hb dDK_askPart_87 (lv_at hl 0 rfl) ?_
      refine lv_iload_n hx hb dDK_askPart_89 rfl (lv_at hl 5 rfl) ?_
      refine lv_iload_n hx hb dDK_askPart_90 rfl (lv_at hl 6 rfl) ?_
      refine k_V (wr := [(a0, .inr (1, [.ref a1, .ref a2, .ref a3, .ref a4, .ref a5])), (a2, .inr (4, [.ref p1, .ref p2, .ref p3])), (p1, .inl (cJ, 12, .inr (.inl an))), (p2, .inl (cJ, 12, .inr (.inl (vp_updL (vp_updL sm k (sm k + v)) k (sm k))))), (p3, .inl (cI, 12, .inl (upd fl k 0)))]) (W1 := [(a0, .inr (1, [.ref a1, .ref a2, .ref a3, .ref a4, .ref a5])), (a2, .inr (4, [.ref p1, .ref p2, .ref p3])), (p1, .inl (cJ, 12, .inr (.inl an))), (p2, .inl (cJ, 12, .inr (.inl (vp_updL (vp_updL sm k (sm k + v)) k (sm k))))), (p3, .inl (cI, 12, .inl (upd fl k 0))), (a3, .inr (5, [.ref t1])), (t1, .inl (cJ, 8, .inr (.inl (vp_updL (vp_updL (vp_updL (vp_updL tf 4 (tf 4 + 1)) 5 ((3 : Int32).toInt64)) 6 ((nI k).toInt64)) 7 (n.toInt64)))))]) (st1 := []) ⟨hx, hb, hml, hown, hts⟩ (k_TL_countFailure l dC dI cI cJ cG cZ a3 t1 tf 3 (nI k) n) (cwV 3 hts (k_gV m_l_DK_107 m_i_TL_countFailure m_s_TL_countFailure m_in_TL m_c_TL_countFailure) rfl rfl rfl (by decide +kernel) ⟨Nat.le_of_ble_eq_true rfl, Nat.le_of_ble_eq_true rfl⟩) hK hF hP hD hS hA [5, 6] [0, 1, 2, 3, 4] [0, 1, 2, 3, 4, 5, 6] rfl rfl (by decide) (by decide) (by decide) rfl (by decide) rfl rfl rfl rfl hl.1 rfl (Nat.le_of_ble_eq_true rfl) dDK_askPart_91 ⟨Nat.le_of_ble_eq_true rfl, Nat.le_of_ble_eq_true rfl⟩ rfl (fun H locs hP hD hS => ?_)
      refine lv_bipush (v := (-100)) hx hb dDK_askPart_94 (by decide) ?_
      refine lv_iload hx hb dDK_askPart_96 (lv_at hl 0 rfl) ?_
      refine lv_isub hx hb dDK_askPart_98 ?_
      refine lv_i2l hx hb dDK_askPart_99 rfl ?_
      exact k_lret hx hb hr hlocks hP hK hD hS rfl dDK_askPart_100 ⟨Nat.le_of_ble_eq_true rfl, Nat.le_of_ble_eq_true rfl⟩
  · have hn : ¬ fl k = 0 := by rw [hf]; decide
    rw [show f_apS sm fl k v = vp_updL (vp_updL sm k (sm k + v)) k (sm k) from (if_neg hn).trans (f_back sm k (sm k + v)).symm]
    rw [show f_apT tf fl k n = vp_updL (vp_updL (vp_updL (vp_updL tf 4 (tf 4 + 1)) 5 ((4 : Int32).toInt64)) 6 ((nI k).toInt64)) 7 (n.toInt64) by unfold f_apT; rw [if_neg hn, hf]]
    rw [show f_apA an sm fl k n v = (-100 - (4 : Int32)).toInt64 by unfold f_apA; rw [if_neg hn, hf]]
    refine k_ofH (cc := cDK_askPart) (maxL := 11) (ret := (some .long)) (by decide) rfl (Nat.le_of_ble_eq_true rfl) ?_
    intro p e s m below meth c A ls hx hb hr hlocks hml hown hts hA hP hD hK hF hl hS ht
    have hown : s.vm.findClass RDK = some m.cls := hown
    have hl : lv_has ls 11 [(0, .ref a0), (1, .int (nI k)), (2, .int n), (3, .long v)] := hl
    refine lv_aload_n hx hb dDK_askPart_0 rfl (lv_at hl 0 rfl) ?_
    refine va_get (D := (dC, dI)) (ci := 1) (v := .ref a2) (C := RDK) (T := TDK) (N := 5) hx hb hts inDK hown hK hP 0 rfl rfl 1 (by decide) (hts _ m_f_DK_21) (fun _ h9 => h9) rfl dDK_askPart_1 ?_
    refine lv_iload_n hx hb dDK_askPart_4 rfl (lv_at hl 1 rfl) ?_
    refine k_V (wr := [(a0, .inr (1, [.ref a1, .ref a2, .ref a3, .ref a4, .ref a5])), (a3, .inr (5, [.ref t1])), (t1, .inl (cJ, 8, .inr (.inl tf)))]) (W1 := [(a0, .inr (1, [.ref a1, .ref a2, .ref a3, .ref a4, .ref a5])), (a2, .inr (4, [.ref p1, .ref p2, .ref p3])), (p1, .inl (cJ, 12, .inr (.inl an))), (p2, .inl (cJ, 12, .inr (.inl sm))), (p3, .inl (cI, 12, .inl fl)), (a3, .inr (5, [.ref t1])), (t1, .inl (cJ, 8, .inr (.inl tf)))]) (st1 := [.long (sm k)]) ⟨hx, hb, hml, hown, hts⟩ (k_PT_sumOf l dC dI cI cJ cG cZ a2 p1 p2 p3 an sm fl k hk) (cwV 1 hts (k_gV m_l_DK_87 m_i_PT_sumOf m_s_PT_sumOf m_in_PT m_c_PT_sumOf) rfl rfl rfl (by decide +kernel) ⟨Nat.le_of_ble_eq_true rfl, Nat.le_of_ble_eq_true rfl⟩) hK hF hP hD hS hA [1, 2, 3, 4] [0, 5, 6] [0, 3, 4, 5, 6, 1, 2] rfl rfl (by decide) (by decide) (by decide) rfl (by decide) rfl rfl rfl rfl hl.1 rfl (Nat.le_of_ble_eq_true rfl) dDK_askPart_5 ⟨Nat.le_of_ble_eq_true rfl, Nat.le_of_ble_eq_true rfl⟩ rfl (fun H locs hP hD hS => ?_)
    refine lv_lstore (lv' := [(5, .long (sm k)), (0, .ref a0), (1, .int (nI k)), (2, .int n), (3, .long v)]) hx hb dDK_askPart_8 hl (by decide) rfl (fun ls hl => ?_)
    refine lv_lconst (v := 0) hx hb dDK_askPart_10 (by decide) ?_
    refine lv_lstore (lv' := [(7, .long 0), (5, .long (sm k)), (0, .ref a0), (1, .int (nI k)), (2, .int n), (3, .long v)]) hx hb dDK_askPart_11 hl (by decide) rfl (fun ls hl => ?_)
    refine lv_iconst (v := 0) hx hb dDK_askPart_13 (by decide) ?_
    refine lv_istore (lv' := [(9, .int 0), (7, .long 0), (5, .long (sm k)), (0, .ref a0), (1, .int (nI k)), (2, .int n), (3, .long v)]) hx hb dDK_askPart_14 hl (by decide) rfl (fun ls hl => ?_)
    refine lv_aload_n hx hb dDK_askPart_16 rfl (lv_at hl 3 rfl) ?_
    refine va_get (D := (dC, dI)) (ci := 1) (v := .ref a2) (C := RDK) (T := TDK) (N := 5) hx hb hts inDK hown hK hP 0 rfl rfl 1 (by decide) (hts _ m_f_DK_21) (fun _ h9 => h9) rfl dDK_askPart_17 ?_
    refine lv_iload_n hx hb dDK_askPart_20 rfl (lv_at hl 4 rfl) ?_
    refine lv_iload_n hx hb dDK_askPart_21 rfl (lv_at hl 5 rfl) ?_
    refine lv_lload_n hx hb dDK_askPart_22 rfl (lv_at hl 6 rfl) ?_
    refine k_VT (wr := [(a0, .inr (1, [.ref a1, .ref a2, .ref a3, .ref a4, .ref a5])), (a3, .inr (5, [.ref t1])), (t1, .inl (cJ, 8, .inr (.inl tf)))]) (W1 := [(a0, .inr (1, [.ref a1, .ref a2, .ref a3, .ref a4, .ref a5])), (a2, .inr (4, [.ref p1, .ref p2, .ref p3])), (p1, .inl (cJ, 12, .inr (.inl an))), (p2, .inl (cJ, 12, .inr (.inl (vp_updL sm k (sm k + v))))), (p3, .inl (cI, 12, .inl (upd fl k 0))), (a3, .inr (5, [.ref t1])), (t1, .inl (cJ, 8, .inr (.inl tf)))]) (rest := []) ⟨hx, hb, hml, hown, hts⟩ (k_PT_answerTo_4 l dC dI cI cJ cG cZ a2 p1 p2 p3 an sm fl k n v hk hf hlt) (cwV 3 hts (k_gV m_l_DK_90 m_i_PT_answerTo m_s_PT_answerTo m_in_PT m_c_PT_answerTo) rfl rfl rfl (by decide +kernel) ⟨Nat.le_of_ble_eq_true rfl, Nat.le_of_ble_eq_true rfl⟩) hK hF hP hD hS hA [1, 2, 3, 4] [0, 5, 6] [0, 3, 4, 5, 6, 1, 2] rfl rfl (by decide) (by decide) (by decide) rfl (by decide) rfl rfl rfl rfl hl.1 rfl (Nat.le_of_ble_eq_true rfl) dDK_askPart_23 ⟨Nat.le_of_ble_eq_true rfl, Nat.le_of_ble_eq_true rfl⟩ (fun q9 ce H locs hP hD hS hce hcv hcl => ?_)
    refine k_catch (own := RDK) hown hts hF [(⟨16, 28, 31, 93⟩ : ExceptionTableEntry), (⟨16, 28, 39, 95⟩ : ExceptionTableEntry), (⟨16, 28, 47, 97⟩ : ExceptionTableEntry)] (⟨16, 28, 55, 99⟩ : ExceptionTableEntry) [(⟨16, 28, 63, 101⟩ : ExceptionTableEntry)] ht (List.forall_mem_cons.mpr ⟨Or.inr ⟨by decide, _, m_cl_DK_93, by decide⟩, List.forall_mem_cons.mpr ⟨Or.inr ⟨by decide, _, m_cl_DK_95, by decide⟩, List.forall_mem_cons.mpr ⟨Or.inr ⟨by decide, _, m_cl_DK_97, by decide⟩, fun _ h => absurd h List.not_mem_nil⟩⟩⟩) (by decide) (by decide) m_cl_DK_99 (by decide) hce hcv hcl ?_
    refine lv_astore (lv' := [(10, .ref q9), (9, .int 0), (7, .long 0), (5, .long (sm k)), (0, .ref a0), (1, .int (nI k)), (2, .int n), (3, .long v)]) hx hb dDK_askPart_55 hl (by decide) rfl (fun ls hl => ?_)
    refine lv_iconst (v := 4) hx hb dDK_askPart_57 (by decide) ?_
    refine lv_istore (lv' := [(9, .int 4), (10, .ref q9), (7, .long 0), (5, .long (sm k)), (0, .ref a0), (1, .int (nI k)), (2, .int n), (3, .long v)]) hx hb dDK_askPart_58 hl (by decide) rfl (fun ls hl => ?_)
    refine lv_goto (tgt := 68) hx hb dDK_askPart_60 (by decide) ?_
    refine lv_iload hx hb dDK_askPart_68 (lv_at hl 0 rfl) ?_
    refine lv_if_eq (tgt := 101) hx hb dDK_askPart_70 (by decide) (fun c_1 => ?_) (fun c_1 => ?_)
    · exact absurd c_1 (by decide)
    · refine lv_aload_n hx hb dDK_askPart_73 rfl (lv_at hl 4 rfl) ?_
      refine va_get (D := (dC, dI)) (ci := 1) (v := .ref a2) (C := RDK) (T := TDK) (N := 5) hx hb hts inDK hown hK hP 0 rfl rfl 1 (by decide) (hts _ m_f_DK_21) (fun _ h9 => h9) rfl dDK_askPart_74 ?_
      refine lv_iload_n hx hb dDK_askPart_77 rfl (lv_at hl 5 rfl) ?_
      refine lv_lload hx hb dDK_askPart_78 (lv_at hl 3 rfl) ?_
      refine k_V (wr := [(a0, .inr (1, [.ref a1, .ref a2, .ref a3, .ref a4, .ref a5])), (a3, .inr (5, [.ref t1])), (t1, .inl (cJ, 8, .inr (.inl tf)))]) (W1 := [(a0, .inr (1, [.ref a1, .ref a2, .ref a3, .ref a4, .ref a5])), (a2, .inr (4, [.ref p1, .ref p2, .ref p3])), (p1, .inl (cJ, 12, .inr (.inl an))), (p2, .inl (cJ, 12, .inr (.inl (vp_updL (vp_updL sm k (sm k + v)) k (sm k))))), (p3, .inl (cI, 12, .inl (upd fl k 0))), (a3, .inr (5, [.ref t1])), (t1, .inl (cJ, 8, .inr (.inl tf)))]) (st1 := []) ⟨hx, hb, hml, hown, hts⟩ (k_PT_restoreSum l dC dI cI cJ cG cZ a2 p1 p2 p3 an (vp_updL sm k (sm k + v)) (upd fl k 0) k (sm k) hk) (cwV 2 hts (k_gV m_l_DK_103 m_i_PT_restoreSum m_s_PT_restoreSum m_in_PT m_c_PT_restoreSum) rfl rfl rfl (by decide +kernel) ⟨Nat.le_of_ble_eq_true rfl, Nat.le_of_ble_eq_true rfl⟩) hK hF hP hD hS hA [1, 2, 3, 4] [0, 5, 6] [0, 3, 4, 5, 6, 1, 2] rfl rfl (by decide) (by decide) (by decide) rfl (by decide) rfl rfl rfl rfl hl.1 rfl (Nat.le_of_ble_eq_true rfl) dDK_askPart_80 ⟨Nat.le_of_ble_eq_true rfl, Nat.le_of_ble_eq_true rfl⟩ rfl (fun H locs hP hD hS => ?_)
      refine lv_aload_n hx hb dDK_askPart_83 rfl (lv_at hl 4 rfl) ?_
      refine va_get (D := (dC, dI)) (ci := 1) (v := .ref a3) (C := RDK) (T := TDK) (N := 5) hx hb hts inDK hown hK hP 0 rfl rfl 2 (by decide) (hts _ m_f_DK_28) (fun _ h9 => h9) rfl dDK_askPart_84 ?_
      refine lv_iload hx hb dDK_askPart_87 (lv_at hl 0 rfl) ?_
      refine lv_iload_n hx hb dDK_askPart_89 rfl (lv_at hl 5 rfl) ?_
      refine lv_iload_n hx hb dDK_askPart_90 rfl (lv_at hl 6 rfl) ?_
      refine k_V (wr := [(a0, .inr (1, [.ref a1, .ref a2, .ref a3, .ref a4, .ref a5])), (a2, .inr (4, [.ref p1, .ref p2, .ref p3])), (p1, .inl (cJ, 12, .inr (.inl an))), (p2, .inl (cJ, 12, .inr (.inl (vp_updL (vp_updL sm k (sm k + v)) k (sm k))))), (p3, .inl (cI, 12, .inl (upd fl k 0)))]) (W1 := [(a0, .inr (1, [.ref a1, .ref a2, .ref a3, .ref a4, .ref a5])), (a2, .inr (4, [.ref p1, .ref p2, .ref p3])), (p1, .inl (cJ, 12, .inr (.inl an))), (p2, .inl (cJ, 12, .inr (.inl (vp_updL (vp_updL sm k (sm k + v)) k (sm k))))), (p3, .inl (cI, 12, .inl (upd fl k 0))), (a3, .inr (5, [.ref t1])), (t1, .inl (cJ, 8, .inr (.inl (vp_updL (vp_updL (vp_updL (vp_updL tf 4 (tf 4 + 1)) 5 ((4 : Int32).toInt64)) 6 ((nI k).toInt64)) 7 (n.toInt64)))))]) (st1 := []) ⟨hx, hb, hml, hown, hts⟩ (k_TL_countFailure l dC dI cI cJ cG cZ a3 t1 tf 4 (nI k) n) (cwV 3 hts (k_gV m_l_DK_107 m_i_TL_countFailure m_s_TL_countFailure m_in_TL m_c_TL_countFailure) rfl rfl rfl (by decide +kernel) ⟨Nat.le_of_ble_eq_true rfl, Nat.le_of_ble_eq_true rfl⟩) hK hF hP hD hS hA [5, 6] [0, 1, 2, 3, 4] [0, 1, 2, 3, 4, 5, 6] rfl rfl (by decide) (by decide) (by decide) rfl (by decide) rfl rfl rfl rfl hl.1 rfl (Nat.le_of_ble_eq_true rfl) dDK_askPart_91 ⟨Nat.le_of_ble_eq_true rfl, Nat.le_of_ble_eq_true rfl⟩ rfl (fun H locs hP hD hS => ?_)
      refine lv_bipush (v := (-100)) hx hb dDK_askPart_94 (by decide) ?_
      refine lv_iload hx hb dDK_askPart_96 (lv_at hl 0 rfl) ?_
      refine lv_isub hx hb dDK_askPart_98 ?_
      refine lv_i2l hx hb dDK_askPart_99 rfl ?_
      exact k_lret hx hb hr hlocks hP hK hD hS rfl dDK_askPart_100 ⟨Nat.le_of_ble_eq_true rfl, Nat.le_of_ble_eq_true rfl⟩
  · have hn : ¬ fl k = 0 := by rw [hf]; decide
    rw [show f_apS sm fl k v = vp_updL (vp_updL sm k (sm k + v)) k (sm k) from (if_neg hn).trans (f_back sm k (sm k + v)).symm]
    rw [show f_apT tf fl k n = vp_updL (vp_updL (vp_updL (vp_updL tf 4 (tf 4 + 1)) 5 ((5 : Int32).toInt64)) 6 ((nI k).toInt64)) 7 (n.toInt64) by unfold f_apT; rw [if_neg hn, hf]]
    rw [show f_apA an sm fl k n v = (-100 - (5 : Int32)).toInt64 by unfold f_apA; rw [if_neg hn, hf]]
    refine k_ofH (cc := cDK_askPart) (maxL := 11) (ret := (some .long)) (by decide) rfl (Nat.le_of_ble_eq_true rfl) ?_
    intro p e s m below meth c A ls hx hb hr hlocks hml hown hts hA hP hD hK hF hl hS ht
    have hown : s.vm.findClass RDK = some m.cls := hown
    have hl : lv_has ls 11 [(0, .ref a0), (1, .int (nI k)), (2, .int n), (3, .long v)] := hl
    refine lv_aload_n hx hb dDK_askPart_0 rfl (lv_at hl 0 rfl) ?_
    refine va_get (D := (dC, dI)) (ci := 1) (v := .ref a2) (C := RDK) (T := TDK) (N := 5) hx hb hts inDK hown hK hP 0 rfl rfl 1 (by decide) (hts _ m_f_DK_21) (fun _ h9 => h9) rfl dDK_askPart_1 ?_
    refine lv_iload_n hx hb dDK_askPart_4 rfl (lv_at hl 1 rfl) ?_
    refine k_V (wr := [(a0, .inr (1, [.ref a1, .ref a2, .ref a3, .ref a4, .ref a5])), (a3, .inr (5, [.ref t1])), (t1, .inl (cJ, 8, .inr (.inl tf)))]) (W1 := [(a0, .inr (1, [.ref a1, .ref a2, .ref a3, .ref a4, .ref a5])), (a2, .inr (4, [.ref p1, .ref p2, .ref p3])), (p1, .inl (cJ, 12, .inr (.inl an))), (p2, .inl (cJ, 12, .inr (.inl sm))), (p3, .inl (cI, 12, .inl fl)), (a3, .inr (5, [.ref t1])), (t1, .inl (cJ, 8, .inr (.inl tf)))]) (st1 := [.long (sm k)]) ⟨hx, hb, hml, hown, hts⟩ (k_PT_sumOf l dC dI cI cJ cG cZ a2 p1 p2 p3 an sm fl k hk) (cwV 1 hts (k_gV m_l_DK_87 m_i_PT_sumOf m_s_PT_sumOf m_in_PT m_c_PT_sumOf) rfl rfl rfl (by decide +kernel) ⟨Nat.le_of_ble_eq_true rfl, Nat.le_of_ble_eq_true rfl⟩) hK hF hP hD hS hA [1, 2, 3, 4] [0, 5, 6] [0, 3, 4, 5, 6, 1, 2] rfl rfl (by decide) (by decide) (by decide) rfl (by decide) rfl rfl rfl rfl hl.1 rfl (Nat.le_of_ble_eq_true rfl) dDK_askPart_5 ⟨Nat.le_of_ble_eq_true rfl, Nat.le_of_ble_eq_true rfl⟩ rfl (fun H locs hP hD hS => ?_)
    refine lv_lstore (lv' := [(5, .long (sm k)), (0, .ref a0), (1, .int (nI k)), (2, .int n), (3, .long v)]) hx hb dDK_askPart_8 hl (by decide) rfl (fun ls hl => ?_)
    refine lv_lconst (v := 0) hx hb dDK_askPart_10 (by decide) ?_
    refine lv_lstore (lv' := [(7, .long 0), (5, .long (sm k)), (0, .ref a0), (1, .int (nI k)), (2, .int n), (3, .long v)]) hx hb dDK_askPart_11 hl (by decide) rfl (fun ls hl => ?_)
    refine lv_iconst (v := 0) hx hb dDK_askPart_13 (by decide) ?_
    refine lv_istore (lv' := [(9, .int 0), (7, .long 0), (5, .long (sm k)), (0, .ref a0), (1, .int (nI k)), (2, .int n), (3, .long v)]) hx hb dDK_askPart_14 hl (by decide) rfl (fun ls hl => ?_)
    refine lv_aload_n hx hb dDK_askPart_16 rfl (lv_at hl 3 rfl) ?_
    refine va_get (D := (dC, dI)) (ci := 1) (v := .ref a2) (C := RDK) (T := TDK) (N := 5) hx hb hts inDK hown hK hP 0 rfl rfl 1 (by decide) (hts _ m_f_DK_21) (fun _ h9 => h9) rfl dDK_askPart_17 ?_
    refine lv_iload_n hx hb dDK_askPart_20 rfl (lv_at hl 4 rfl) ?_
    refine lv_iload_n hx hb dDK_askPart_21 rfl (lv_at hl 5 rfl) ?_
    refine lv_lload_n hx hb dDK_askPart_22 rfl (lv_at hl 6 rfl) ?_
    refine k_VT (wr := [(a0, .inr (1, [.ref a1, .ref a2, .ref a3, .ref a4, .ref a5])), (a3, .inr (5, [.ref t1])), (t1, .inl (cJ, 8, .inr (.inl tf)))]) (W1 := [(a0, .inr (1, [.ref a1, .ref a2, .ref a3, .ref a4, .ref a5])), (a2, .inr (4, [.ref p1, .ref p2, .ref p3])), (p1, .inl (cJ, 12, .inr (.inl an))), (p2, .inl (cJ, 12, .inr (.inl (vp_updL sm k (sm k + v))))), (p3, .inl (cI, 12, .inl (upd fl k 0))), (a3, .inr (5, [.ref t1])), (t1, .inl (cJ, 8, .inr (.inl tf)))]) (rest := []) ⟨hx, hb, hml, hown, hts⟩ (k_PT_answerTo_5 l dC dI cI cJ cG cZ a2 p1 p2 p3 an sm fl k n v hk hf hlt) (cwV 3 hts (k_gV m_l_DK_90 m_i_PT_answerTo m_s_PT_answerTo m_in_PT m_c_PT_answerTo) rfl rfl rfl (by decide +kernel) ⟨Nat.le_of_ble_eq_true rfl, Nat.le_of_ble_eq_true rfl⟩) hK hF hP hD hS hA [1, 2, 3, 4] [0, 5, 6] [0, 3, 4, 5, 6, 1, 2] rfl rfl (by decide) (by decide) (by decide) rfl (by decide) rfl rfl rfl rfl hl.1 rfl (Nat.le_of_ble_eq_true rfl) dDK_askPart_23 ⟨Nat.le_of_ble_eq_true rfl, Nat.le_of_ble_eq_true rfl⟩ (fun q9 ce H locs hP hD hS hce hcv hcl => ?_)
    refine k_catch (own := RDK) hown hts hF [(⟨16, 28, 31, 93⟩ : ExceptionTableEntry), (⟨16, 28, 39, 95⟩ : ExceptionTableEntry), (⟨16, 28, 47, 97⟩ : ExceptionTableEntry), (⟨16, 28, 55, 99⟩ : ExceptionTableEntry)] (⟨16, 28, 63, 101⟩ : ExceptionTableEntry) [] ht (List.forall_mem_cons.mpr ⟨Or.inr ⟨by decide, _, m_cl_DK_93, by decide⟩, List.forall_mem_cons.mpr ⟨Or.inr ⟨by decide, _, m_cl_DK_95, by decide⟩, List.forall_mem_cons.mpr ⟨Or.inr ⟨by decide, _, m_cl_DK_97, by decide⟩, List.forall_mem_cons.mpr ⟨Or.inr ⟨by decide, _, m_cl_DK_99, by decide⟩, fun _ h => absurd h List.not_mem_nil⟩⟩⟩⟩) (by decide) (by decide) m_cl_DK_101 (by decide) hce hcv hcl ?_
    refine lv_astore (lv' := [(10, .ref q9), (9, .int 0), (7, .long 0), (5, .long (sm k)), (0, .ref a0), (1, .int (nI k)), (2, .int n), (3, .long v)]) hx hb dDK_askPart_63 hl (by decide) rfl (fun ls hl => ?_)
    refine lv_iconst (v := 5) hx hb dDK_askPart_65 (by decide) ?_
    refine lv_istore (lv' := [(9, .int 5), (10, .ref q9), (7, .long 0), (5, .long (sm k)), (0, .ref a0), (1, .int (nI k)), (2, .int n), (3, .long v)]) hx hb dDK_askPart_66 hl (by decide) rfl (fun ls hl => ?_)
    refine lv_iload hx hb dDK_askPart_68 (lv_at hl 0 rfl) ?_
    refine lv_if_eq (tgt := 101) hx hb dDK_askPart_70 (by decide) (fun c_1 => ?_) (fun c_1 => ?_)
    · exact absurd c_1 (by decide)
    · refine lv_aload_n hx hb dDK_askPart_73 rfl (lv_at hl 4 rfl) ?_
      refine va_get (D := (dC, dI)) (ci := 1) (v := .ref a2) (C := RDK) (T := TDK) (N := 5) hx hb hts inDK hown hK hP 0 rfl rfl 1 (by decide) (hts _ m_f_DK_21) (fun _ h9 => h9) rfl dDK_askPart_74 ?_
      refine lv_iload_n hx hb dDK_askPart_77 rfl (lv_at hl 5 rfl) ?_
      refine lv_lload hx hb dDK_askPart_78 (lv_at hl 3 rfl) ?_
      refine k_V (wr := [(a0, .inr (1, [.ref a1, .ref a2, .ref a3, .ref a4, .ref a5])), (a3, .inr (5, [.ref t1])), (t1, .inl (cJ, 8, .inr (.inl tf)))]) (W1 := [(a0, .inr (1, [.ref a1, .ref a2, .ref a3, .ref a4, .ref a5])), (a2, .inr (4, [.ref p1, .ref p2, .ref p3])), (p1, .inl (cJ, 12, .inr (.inl an))), (p2, .inl (cJ, 12, .inr (.inl (vp_updL (vp_updL sm k (sm k + v)) k (sm k))))), (p3, .inl (cI, 12, .inl (upd fl k 0))), (a3, .inr (5, [.ref t1])), (t1, .inl (cJ, 8, .inr (.inl tf)))]) (st1 := []) ⟨hx, hb, hml, hown, hts⟩ (k_PT_restoreSum l dC dI cI cJ cG cZ a2 p1 p2 p3 an (vp_updL sm k (sm k + v)) (upd fl k 0) k (sm k) hk) (cwV 2 hts (k_gV m_l_DK_103 m_i_PT_restoreSum m_s_PT_restoreSum m_in_PT m_c_PT_restoreSum) rfl rfl rfl (by decide +kernel) ⟨Nat.le_of_ble_eq_true rfl, Nat.le_of_ble_eq_true rfl⟩) hK hF hP hD hS hA [1, 2, 3, 4] [0, 5, 6] [0, 3, 4, 5, 6, 1, 2] rfl rfl (by decide) (by decide) (by decide) rfl (by decide) rfl rfl rfl rfl hl.1 rfl (Nat.le_of_ble_eq_true rfl) dDK_askPart_80 ⟨Nat.le_of_ble_eq_true rfl, Nat.le_of_ble_eq_true rfl⟩ rfl (fun H locs hP hD hS => ?_)
      refine lv_aload_n hx hb dDK_askPart_83 rfl (lv_at hl 4 rfl) ?_
      refine va_get (D := (dC, dI)) (ci := 1) (v := .ref a3) (C := RDK) (T := TDK) (N := 5) hx hb hts inDK hown hK hP 0 rfl rfl 2 (by decide) (hts _ m_f_DK_28) (fun _ h9 => h9) rfl dDK_askPart_84 ?_
      refine lv_iload hx hb dDK_askPart_87 (lv_at hl 0 rfl) ?_
      refine lv_iload_n hx hb dDK_askPart_89 rfl (lv_at hl 5 rfl) ?_
      refine lv_iload_n hx hb dDK_askPart_90 rfl (lv_at hl 6 rfl) ?_
      refine k_V (wr := [(a0, .inr (1, [.ref a1, .ref a2, .ref a3, .ref a4, .ref a5])), (a2, .inr (4, [.ref p1, .ref p2, .ref p3])), (p1, .inl (cJ, 12, .inr (.inl an))), (p2, .inl (cJ, 12, .inr (.inl (vp_updL (vp_updL sm k (sm k + v)) k (sm k))))), (p3, .inl (cI, 12, .inl (upd fl k 0)))]) (W1 := [(a0, .inr (1, [.ref a1, .ref a2, .ref a3, .ref a4, .ref a5])), (a2, .inr (4, [.ref p1, .ref p2, .ref p3])), (p1, .inl (cJ, 12, .inr (.inl an))), (p2, .inl (cJ, 12, .inr (.inl (vp_updL (vp_updL sm k (sm k + v)) k (sm k))))), (p3, .inl (cI, 12, .inl (upd fl k 0))), (a3, .inr (5, [.ref t1])), (t1, .inl (cJ, 8, .inr (.inl (vp_updL (vp_updL (vp_updL (vp_updL tf 4 (tf 4 + 1)) 5 ((5 : Int32).toInt64)) 6 ((nI k).toInt64)) 7 (n.toInt64)))))]) (st1 := []) ⟨hx, hb, hml, hown, hts⟩ (k_TL_countFailure l dC dI cI cJ cG cZ a3 t1 tf 5 (nI k) n) (cwV 3 hts (k_gV m_l_DK_107 m_i_TL_countFailure m_s_TL_countFailure m_in_TL m_c_TL_countFailure) rfl rfl rfl (by decide +kernel) ⟨Nat.le_of_ble_eq_true rfl, Nat.le_of_ble_eq_true rfl⟩) hK hF hP hD hS hA [5, 6] [0, 1, 2, 3, 4] [0, 1, 2, 3, 4, 5, 6] rfl rfl (by decide) (by decide) (by decide) rfl (by decide) rfl rfl rfl rfl hl.1 rfl (Nat.le_of_ble_eq_true rfl) dDK_askPart_91 ⟨Nat.le_of_ble_eq_true rfl, Nat.le_of_ble_eq_true rfl⟩ rfl (fun H locs hP hD hS => ?_)
      refine lv_bipush (v := (-100)) hx hb dDK_askPart_94 (by decide) ?_
      refine lv_iload hx hb dDK_askPart_96 (lv_at hl 0 rfl) ?_
      refine lv_isub hx hb dDK_askPart_98 ?_
      refine lv_i2l hx hb dDK_askPart_99 rfl ?_
      exact k_lret hx hb hr hlocks hP hK hD hS rfl dDK_askPart_100 ⟨Nat.le_of_ble_eq_true rfl, Nat.le_of_ble_eq_true rfl⟩
abbrev rm_DK_answerOrRefuse : Room := { frames := 9, cells := 1, slots := 6, locals := 158 }
set_option maxHeartbeats 4000000 in
set_option maxRecDepth 100000 in
theorem k_DK_answerOrRefuse (l : Launch) (dC : Nat → ClassId) (dI : Nat → Nat → Nat) (cI cJ cG cZ : ClassId) (a0 : Nat) (a1 : Nat) (a2 : Nat) (a3 : Nat) (a4 : Nat) (a5 : Nat) (n1 : Nat) (n2 : Nat) (p1 : Nat) (p2 : Nat) (p3 : Nat) (t1 : Nat) (md : Nat → Int32) (kn : Nat → Int64) (an : Nat → Int64) (sm : Nat → Int64) (fl : Nat → Int32) (tf : Nat → Int64) (x : Int32) (n : Int32) (v : Int64) (hg : ∀ k : Nat, k < 12 → fl k = 0 ∨ fl k = 1 ∨ fl k = 2 ∨ fl k = 3 ∨ fl k = 4 ∨ fl k = 5) (hlt : l.stackTraces = false) : k_M l yDK_answerOrRefuse wsDK_answerOrRefuse rm_DK_answerOrRefuse (dC, dI) vwCl [(cI, .int), (cJ, .long), (cG, .array .long), (cZ, .boolean)] [.ref a0, .int x, .int n, .long v] [(a0, .inr (1, [.ref a1, .ref a2, .ref a3, .ref a4, .ref a5])), (a1, .inr (3, [.ref n1, .ref n2])), (n1, .inl (cI, 8, .inl md)), (n2, .inl (cJ, 8, .inr (.inl kn))), (a2, .inr (4, [.ref p1, .ref p2, .ref p3])), (p1, .inl (cJ, 12, .inr (.inl an))), (p2, .inl (cJ, 12, .inr (.inl sm))), (p3, .inl (cI, 12, .inl fl)), (a3, .inr (5, [.ref t1])), (t1, .inl (cJ, 8, .inr (.inl tf)))] (some (.long (f_aA md kn an sm fl x n v))) [(a0, .inr (1, [.ref a1, .ref a2, .ref a3, .ref a4, .ref a5])), (a1, .inr (3, [.ref n1, .ref n2])), (n1, .inl (cI, 8, .inl md)), (n2, .inl (cJ, 8, .inr (.inl kn))), (a2, .inr (4, [.ref p1, .ref p2, .ref p3])), (p1, .inl (cJ, 12, .inr (.inl an))), (p2, .inl (cJ, 12, .inr (.inl (f_aS md kn sm fl x n v)))), (p3, .inl (cI, 12, .inl (f_aF md kn fl x n))), (a3, .inr (5, [.ref t1])), (t1, .inl (cJ, 8, .inr (.inl (f_aT md kn tf fl x n))))] := by
  rcases (show f_isPart x = 0 ∨ (∃ k : Nat, k < 12 ∧ x = nI k ∧ f_wasMade md (k % 8) n = 0) ∨ (∃ k : Nat, k < 12 ∧ x = nI k ∧ ¬ f_wasMade md (k % 8) n = 0 ∧ f_isKnown md kn (k % 8) n = 0) ∨ (∃ k : Nat, k < 12 ∧ x = nI k ∧ ¬ f_wasMade md (k % 8) n = 0 ∧ ¬ f_isKnown md kn (k % 8) n = 0) from f_cases x n) with h0 | ⟨k, hk, rfl, h1⟩ | ⟨k, hk, rfl, h1, h2⟩ | ⟨k, hk, rfl, h1, h2⟩
  · have e1 : f_cd md kn x n = 1 := if_pos h0
    rw [show f_aS md kn sm fl x n v = sm by unfold f_aS; rw [e1]; rfl, show f_aF md kn fl x n = fl by unfold f_aF; rw [e1]; rfl, show f_aT md kn tf fl x n = vp_updL tf 1 (tf 1 + 1) by unfold f_aT; rw [e1]; rfl, show f_aA md kn an sm fl x n v = (-nI 1).toInt64 by unfold f_aA; rw [e1]; rfl]
    refine k_of (cc := cDK_answerOrRefuse) (maxL := 6) (ret := (some .long)) (by decide) rfl (Nat.le_of_ble_eq_true rfl) ?_
    intro p e s m below meth c A ls hx hb hr hlocks hml hown hts hA hP hD hK hF hl hS
    have hown : s.vm.findClass RDK = some m.cls := hown
    have hl : lv_has ls 6 [(0, .ref a0), (1, .int x), (2, .int n), (3, .long v)] := hl
    refine lv_iload_n hx hb dDK_answerOrRefuse_0 rfl (lv_at hl 1 rfl) ?_
    refine k_SN (wr := [(a0, .inr (1, [.ref a1, .ref a2, .ref a3, .ref a4, .ref a5])), (a1, .inr (3, [.ref n1, .ref n2])), (n1, .inl (cI, 8, .inl md)), (n2, .inl (cJ, 8, .inr (.inl kn))), (a2, .inr (4, [.ref p1, .ref p2, .ref p3])), (p1, .inl (cJ, 12, .inr (.inl an))), (p2, .inl (cJ, 12, .inr (.inl sm))), (p3, .inl (cI, 12, .inl fl)), (a3, .inr (5, [.ref t1])), (t1, .inl (cJ, 8, .inr (.inl tf)))]) (W1 := [(a0, .inr (1, [.ref a1, .ref a2, .ref a3, .ref a4, .ref a5])), (a1, .inr (3, [.ref n1, .ref n2])), (n1, .inl (cI, 8, .inl md)), (n2, .inl (cJ, 8, .inr (.inl kn))), (a2, .inr (4, [.ref p1, .ref p2, .ref p3])), (p1, .inl (cJ, 12, .inr (.inl an))), (p2, .inl (cJ, 12, .inr (.inl sm))), (p3, .inl (cI, 12, .inl fl)), (a3, .inr (5, [.ref t1])), (t1, .inl (cJ, 8, .inr (.inl tf)))]) (st1 := [.int (f_isPart x)]) ⟨hx, hb, hml, hown, hts⟩ (k_PD_isPart l dC dI cI cJ cG cZ x) ⟨va_cnB 1 hts (k_gI m_c_PD_isPart) rfl rfl rfl (hF.1 _ (List.mem_of_getElem? (i := 5) rfl)) (hts _ m_in_PD) (by decide +kernel) ⟨Nat.le_of_ble_eq_true rfl, Nat.le_of_ble_eq_true rfl⟩, hts _ m_st_PD_isPart, trivial⟩ hK hF hP hD hS hA [] [0, 1, 2, 3, 4, 5, 6, 7, 8, 9] [0, 1, 2, 3, 4, 5, 6, 7, 8, 9] rfl rfl (by decide) (by decide) (by decide) rfl (by decide) rfl hl.1 rfl (Nat.le_of_ble_eq_true rfl) dDK_answerOrRefuse_1 ⟨Nat.le_of_ble_eq_true rfl, Nat.le_of_ble_eq_true rfl⟩ rfl (fun H locs hP hD hS => ?_)
    refine lv_if_ne (tgt := 13) hx hb dDK_answerOrRefuse_4 (by decide) (fun c_1 => ?_) (fun c_1 => ?_)
    · exact absurd h0 c_1
    · refine lv_aload_n hx hb dDK_answerOrRefuse_7 rfl (lv_at hl 0 rfl) ?_
      refine lv_iconst (v := 1) hx hb dDK_answerOrRefuse_8 (by decide) ?_
      refine k_V (wr := [(a1, .inr (3, [.ref n1, .ref n2])), (n1, .inl (cI, 8, .inl md)), (n2, .inl (cJ, 8, .inr (.inl kn))), (a2, .inr (4, [.ref p1, .ref p2, .ref p3])), (p1, .inl (cJ, 12, .inr (.inl an))), (p2, .inl (cJ, 12, .inr (.inl sm))), (p3, .inl (cI, 12, .inl fl))]) (W1 := [(a0, .inr (1, [.ref a1, .ref a2, .ref a3, .ref a4, .ref a5])), (a1, .inr (3, [.ref n1, .ref n2])), (n1, .inl (cI, 8, .inl md)), (n2, .inl (cJ, 8, .inr (.inl kn))), (a2, .inr (4, [.ref p1, .ref p2, .ref p3])), (p1, .inl (cJ, 12, .inr (.inl an))), (p2, .inl (cJ, 12, .inr (.inl sm))), (p3, .inl (cI, 12, .inl fl)), (a3, .inr (5, [.ref t1])), (t1, .inl (cJ, 8, .inr (.inl (vp_updL tf 1 (tf 1 + 1)))))]) (st1 := [.long ((-nI 1).toInt64)]) ⟨hx, hb, hml, hown, hts⟩ (k_DK_refuse l dC dI cI cJ cG cZ a0 a1 a2 a3 a4 a5 t1 tf 1 (by decide)) (cwV 1 hts (k_gV m_l_DK_69 m_i_DK_refuse m_s_DK_refuse m_in_DK m_c_DK_refuse) rfl rfl rfl (by decide +kernel) ⟨Nat.le_of_ble_eq_true rfl, Nat.le_of_ble_eq_true rfl⟩) hK hF hP hD hS hA [0, 8, 9] [1, 2, 3, 4, 5, 6, 7] [7, 0, 1, 2, 3, 4, 5, 6, 8, 9] rfl rfl (by decide) (by decide) (by decide) rfl (by decide) rfl rfl rfl rfl hl.1 rfl (Nat.le_of_ble_eq_true rfl) dDK_answerOrRefuse_9 ⟨Nat.le_of_ble_eq_true rfl, Nat.le_of_ble_eq_true rfl⟩ rfl (fun H locs hP hD hS => ?_)
      exact k_lret hx hb hr hlocks hP hK hD hS rfl dDK_answerOrRefuse_12 ⟨Nat.le_of_ble_eq_true rfl, Nat.le_of_ble_eq_true rfl⟩
  · have e1 : f_cd md kn (nI k) n = 2 := by unfold f_cd; rw [if_neg (by rw [f_isPart_nI hk]; decide), nI_clamp (by omega), if_pos h1]
    rw [show f_aS md kn sm fl (nI k) n v = sm by unfold f_aS; rw [e1]; rfl, show f_aF md kn fl (nI k) n = fl by unfold f_aF; rw [e1]; rfl, show f_aT md kn tf fl (nI k) n = vp_updL tf 2 (tf 2 + 1) by unfold f_aT; rw [e1]; rfl, show f_aA md kn an sm fl (nI k) n v = (-nI 2).toInt64 by unfold f_aA; rw [e1]; rfl]
    refine k_of (cc := cDK_answerOrRefuse) (maxL := 6) (ret := (some .long)) (by decide) rfl (Nat.le_of_ble_eq_true rfl) ?_
    intro p e s m below meth c A ls hx hb hr hlocks hml hown hts hA hP hD hK hF hl hS
    have hown : s.vm.findClass RDK = some m.cls := hown
    have hl : lv_has ls 6 [(0, .ref a0), (1, .int (nI k)), (2, .int n), (3, .long v)] := hl
    refine lv_iload_n hx hb dDK_answerOrRefuse_0 rfl (lv_at hl 1 rfl) ?_
    refine k_SN (wr := [(a0, .inr (1, [.ref a1, .ref a2, .ref a3, .ref a4, .ref a5])), (a1, .inr (3, [.ref n1, .ref n2])), (n1, .inl (cI, 8, .inl md)), (n2, .inl (cJ, 8, .inr (.inl kn))), (a2, .inr (4, [.ref p1, .ref p2, .ref p3])), (p1, .inl (cJ, 12, .inr (.inl an))), (p2, .inl (cJ, 12, .inr (.inl sm))), (p3, .inl (cI, 12, .inl fl)), (a3, .inr (5, [.ref t1])), (t1, .inl (cJ, 8, .inr (.inl tf)))]) (W1 := [(a0, .inr (1, [.ref a1, .ref a2, .ref a3, .ref a4, .ref a5])), (a1, .inr (3, [.ref n1, .ref n2])), (n1, .inl (cI, 8, .inl md)), (n2, .inl (cJ, 8, .inr (.inl kn))), (a2, .inr (4, [.ref p1, .ref p2, .ref p3])), (p1, .inl (cJ, 12, .inr (.inl an))), (p2, .inl (cJ, 12, .inr (.inl sm))), (p3, .inl (cI, 12, .inl fl)), (a3, .inr (5, [.ref t1])), (t1, .inl (cJ, 8, .inr (.inl tf)))]) (st1 := [.int (f_isPart (nI k))]) ⟨hx, hb, hml, hown, hts⟩ (k_PD_isPart l dC dI cI cJ cG cZ (nI k)) ⟨va_cnB 1 hts (k_gI m_c_PD_isPart) rfl rfl rfl (hF.1 _ (List.mem_of_getElem? (i := 5) rfl)) (hts _ m_in_PD) (by decide +kernel) ⟨Nat.le_of_ble_eq_true rfl, Nat.le_of_ble_eq_true rfl⟩, hts _ m_st_PD_isPart, trivial⟩ hK hF hP hD hS hA [] [0, 1, 2, 3, 4, 5, 6, 7, 8, 9] [0, 1, 2, 3, 4, 5, 6, 7, 8, 9] rfl rfl (by decide) (by decide) (by decide) rfl (by decide) rfl hl.1 rfl (Nat.le_of_ble_eq_true rfl) dDK_answerOrRefuse_1 ⟨Nat.le_of_ble_eq_true rfl, Nat.le_of_ble_eq_true rfl⟩ rfl (fun H locs hP hD hS => ?_)
    refine lv_if_ne (tgt := 13) hx hb dDK_answerOrRefuse_4 (by decide) (fun c_1 => ?_) (fun c_1 => ?_)
    · refine lv_iload_n hx hb dDK_answerOrRefuse_13 rfl (lv_at hl 1 rfl) ?_
      refine lv_bipush (v := 8) hx hb dDK_answerOrRefuse_14 (by decide) ?_
      refine lv_irem hx hb dDK_answerOrRefuse_16 (by decide) ?_
      refine k_topi (y := nI (k % 8)) (pk_rem (a := k) (d := 8) (by omega) (by decide) (by decide)) ?_
      refine lv_istore (lv' := [(5, .int (nI (k % 8))), (0, .ref a0), (1, .int (nI k)), (2, .int n), (3, .long v)]) hx hb dDK_answerOrRefuse_17 hl (by decide) rfl (fun ls hl => ?_)
      refine lv_aload_n hx hb dDK_answerOrRefuse_19 rfl (lv_at hl 1 rfl) ?_
      refine va_get (D := (dC, dI)) (ci := 1) (v := .ref a1) (C := RDK) (T := TDK) (N := 5) hx hb hts inDK hown hK hP 0 rfl rfl 0 (by decide) (hts _ m_f_DK_12) (fun _ h9 => h9) rfl dDK_answerOrRefuse_20 ?_
      refine lv_iload hx hb dDK_answerOrRefuse_23 (lv_at hl 0 rfl) ?_
      refine lv_iload_n hx hb dDK_answerOrRefuse_25 rfl (lv_at hl 3 rfl) ?_
      refine k_V (wr := [(a0, .inr (1, [.ref a1, .ref a2, .ref a3, .ref a4, .ref a5])), (a2, .inr (4, [.ref p1, .ref p2, .ref p3])), (p1, .inl (cJ, 12, .inr (.inl an))), (p2, .inl (cJ, 12, .inr (.inl sm))), (p3, .inl (cI, 12, .inl fl)), (a3, .inr (5, [.ref t1])), (t1, .inl (cJ, 8, .inr (.inl tf)))]) (W1 := [(a0, .inr (1, [.ref a1, .ref a2, .ref a3, .ref a4, .ref a5])), (a1, .inr (3, [.ref n1, .ref n2])), (n1, .inl (cI, 8, .inl md)), (n2, .inl (cJ, 8, .inr (.inl kn))), (a2, .inr (4, [.ref p1, .ref p2, .ref p3])), (p1, .inl (cJ, 12, .inr (.inl an))), (p2, .inl (cJ, 12, .inr (.inl sm))), (p3, .inl (cI, 12, .inl fl)), (a3, .inr (5, [.ref t1])), (t1, .inl (cJ, 8, .inr (.inl tf)))]) (st1 := [.int (f_wasMade md (k % 8) n)]) ⟨hx, hb, hml, hown, hts⟩ (k_NU_wasMade l dC dI cI cJ cG cZ a1 n1 n2 md kn (k % 8) n (Nat.mod_lt _ (by decide))) (cwV 2 hts (k_gV m_l_DK_73 m_i_NU_wasMade m_s_NU_wasMade m_in_NU m_c_NU_wasMade) rfl rfl rfl (by decide +kernel) ⟨Nat.le_of_ble_eq_true rfl, Nat.le_of_ble_eq_true rfl⟩) hK hF hP hD hS hA [1, 2, 3] [0, 4, 5, 6, 7, 8, 9] [0, 7, 8, 9, 1, 2, 3, 4, 5, 6] rfl rfl (by decide) (by decide) (by decide) rfl (by decide) rfl rfl rfl rfl hl.1 rfl (Nat.le_of_ble_eq_true rfl) dDK_answerOrRefuse_26 ⟨Nat.le_of_ble_eq_true rfl, Nat.le_of_ble_eq_true rfl⟩ rfl (fun H locs hP hD hS => ?_)
      refine lv_if_ne (tgt := 38) hx hb dDK_answerOrRefuse_29 (by decide) (fun c_2 => ?_) (fun c_2 => ?_)
      · exact absurd h1 c_2
      · refine lv_aload_n hx hb dDK_answerOrRefuse_32 rfl (lv_at hl 1 rfl) ?_
        refine lv_iconst (v := 2) hx hb dDK_answerOrRefuse_33 (by decide) ?_
        refine k_V (wr := [(a1, .inr (3, [.ref n1, .ref n2])), (n1, .inl (cI, 8, .inl md)), (n2, .inl (cJ, 8, .inr (.inl kn))), (a2, .inr (4, [.ref p1, .ref p2, .ref p3])), (p1, .inl (cJ, 12, .inr (.inl an))), (p2, .inl (cJ, 12, .inr (.inl sm))), (p3, .inl (cI, 12, .inl fl))]) (W1 := [(a0, .inr (1, [.ref a1, .ref a2, .ref a3, .ref a4, .ref a5])), (a1, .inr (3, [.ref n1, .ref n2])), (n1, .inl (cI, 8, .inl md)), (n2, .inl (cJ, 8, .inr (.inl kn))), (a2, .inr (4, [.ref p1, .ref p2, .ref p3])), (p1, .inl (cJ, 12, .inr (.inl an))), (p2, .inl (cJ, 12, .inr (.inl sm))), (p3, .inl (cI, 12, .inl fl)), (a3, .inr (5, [.ref t1])), (t1, .inl (cJ, 8, .inr (.inl (vp_updL tf 2 (tf 2 + 1)))))]) (st1 := [.long ((-nI 2).toInt64)]) ⟨hx, hb, hml, hown, hts⟩ (k_DK_refuse l dC dI cI cJ cG cZ a0 a1 a2 a3 a4 a5 t1 tf 2 (by decide)) (cwV 1 hts (k_gV m_l_DK_69 m_i_DK_refuse m_s_DK_refuse m_in_DK m_c_DK_refuse) rfl rfl rfl (by decide +kernel) ⟨Nat.le_of_ble_eq_true rfl, Nat.le_of_ble_eq_true rfl⟩) hK hF hP hD hS hA [0, 8, 9] [1, 2, 3, 4, 5, 6, 7] [7, 0, 1, 2, 3, 4, 5, 6, 8, 9] rfl rfl (by decide) (by decide) (by decide) rfl (by decide) rfl rfl rfl rfl hl.1 rfl (Nat.le_of_ble_eq_true rfl) dDK_answerOrRefuse_34 ⟨Nat.le_of_ble_eq_true rfl, Nat.le_of_ble_eq_true rfl⟩ rfl (fun H locs hP hD hS => ?_)
        exact k_lret hx hb hr hlocks hP hK hD hS rfl dDK_answerOrRefuse_37 ⟨Nat.le_of_ble_eq_true rfl, Nat.le_of_ble_eq_true rfl⟩
    · exact absurd c_1 (by rw [f_isPart_nI hk]; decide)
  · have e1 : f_cd md kn (nI k) n = 3 := by unfold f_cd; rw [if_neg (by rw [f_isPart_nI hk]; decide), nI_clamp (by omega), if_neg h1, if_pos h2]
    rw [show f_aS md kn sm fl (nI k) n v = sm by unfold f_aS; rw [e1]; rfl, show f_aF md kn fl (nI k) n = fl by unfold f_aF; rw [e1]; rfl, show f_aT md kn tf fl (nI k) n = vp_updL tf 3 (tf 3 + 1) by unfold f_aT; rw [e1]; rfl, show f_aA md kn an sm fl (nI k) n v = (-nI 3).toInt64 by unfold f_aA; rw [e1]; rfl]
    refine k_of (cc := cDK_answerOrRefuse) (maxL := 6) (ret := (some .long)) (by decide) rfl (Nat.le_of_ble_eq_true rfl) ?_
    intro p e s m below meth c A ls hx hb hr hlocks hml hown hts hA hP hD hK hF hl hS
    have hown : s.vm.findClass RDK = some m.cls := hown
    have hl : lv_has ls 6 [(0, .ref a0), (1, .int (nI k)), (2, .int n), (3, .long v)] := hl
    refine lv_iload_n hx hb dDK_answerOrRefuse_0 rfl (lv_at hl 1 rfl) ?_
    refine k_SN (wr := [(a0, .inr (1, [.ref a1, .ref a2, .ref a3, .ref a4, .ref a5])), (a1, .inr (3, [.ref n1, .ref n2])), (n1, .inl (cI, 8, .inl md)), (n2, .inl (cJ, 8, .inr (.inl kn))), (a2, .inr (4, [.ref p1, .ref p2, .ref p3])), (p1, .inl (cJ, 12, .inr (.inl an))), (p2, .inl (cJ, 12, .inr (.inl sm))), (p3, .inl (cI, 12, .inl fl)), (a3, .inr (5, [.ref t1])), (t1, .inl (cJ, 8, .inr (.inl tf)))]) (W1 := [(a0, .inr (1, [.ref a1, .ref a2, .ref a3, .ref a4, .ref a5])), (a1, .inr (3, [.ref n1, .ref n2])), (n1, .inl (cI, 8, .inl md)), (n2, .inl (cJ, 8, .inr (.inl kn))), (a2, .inr (4, [.ref p1, .ref p2, .ref p3])), (p1, .inl (cJ, 12, .inr (.inl an))), (p2, .inl (cJ, 12, .inr (.inl sm))), (p3, .inl (cI, 12, .inl fl)), (a3, .inr (5, [.ref t1])), (t1, .inl (cJ, 8, .inr (.inl tf)))]) (st1 := [.int (f_isPart (nI k))]) ⟨hx, hb, hml, hown, hts⟩ (k_PD_isPart l dC dI cI cJ cG cZ (nI k)) ⟨va_cnB 1 hts (k_gI m_c_PD_isPart) rfl rfl rfl (hF.1 _ (List.mem_of_getElem? (i := 5) rfl)) (hts _ m_in_PD) (by decide +kernel) ⟨Nat.le_of_ble_eq_true rfl, Nat.le_of_ble_eq_true rfl⟩, hts _ m_st_PD_isPart, trivial⟩ hK hF hP hD hS hA [] [0, 1, 2, 3, 4, 5, 6, 7, 8, 9] [0, 1, 2, 3, 4, 5, 6, 7, 8, 9] rfl rfl (by decide) (by decide) (by decide) rfl (by decide) rfl hl.1 rfl (Nat.le_of_ble_eq_true rfl) dDK_answerOrRefuse_1 ⟨Nat.le_of_ble_eq_true rfl, Nat.le_of_ble_eq_true rfl⟩ rfl (fun H locs hP hD hS => ?_)
    refine lv_if_ne (tgt := 13) hx hb dDK_answerOrRefuse_4 (by decide) (fun c_1 => ?_) (fun c_1 => ?_)
    · refine lv_iload_n hx hb dDK_answerOrRefuse_13 rfl (lv_at hl 1 rfl) ?_
      refine lv_bipush (v := 8) hx hb dDK_answerOrRefuse_14 (by decide) ?_
      refine lv_irem hx hb dDK_answerOrRefuse_16 (by decide) ?_
      refine k_topi (y := nI (k % 8)) (pk_rem (a := k) (d := 8) (by omega) (by decide) (by decide)) ?_
      refine lv_istore (lv' := [(5, .int (nI (k % 8))), (0, .ref a0), (1, .int (nI k)), (2, .int n), (3, .long v)]) hx hb dDK_answerOrRefuse_17 hl (by decide) rfl (fun ls hl => ?_)
      refine lv_aload_n hx hb dDK_answerOrRefuse_19 rfl (lv_at hl 1 rfl) ?_
      refine va_get (D := (dC, dI)) (ci := 1) (v := .ref a1) (C := RDK) (T := TDK) (N := 5) hx hb hts inDK hown hK hP 0 rfl rfl 0 (by decide) (hts _ m_f_DK_12) (fun _ h9 => h9) rfl dDK_answerOrRefuse_20 ?_
      refine lv_iload hx hb dDK_answerOrRefuse_23 (lv_at hl 0 rfl) ?_
      refine lv_iload_n hx hb dDK_answerOrRefuse_25 rfl (lv_at hl 3 rfl) ?_
      refine k_V (wr := [(a0, .inr (1, [.ref a1, .ref a2, .ref a3, .ref a4, .ref a5])), (a2, .inr (4, [.ref p1, .ref p2, .ref p3])), (p1, .inl (cJ, 12, .inr (.inl an))), (p2, .inl (cJ, 12, .inr (.inl sm))), (p3, .inl (cI, 12, .inl fl)), (a3, .inr (5, [.ref t1])), (t1, .inl (cJ, 8, .inr (.inl tf)))]) (W1 := [(a0, .inr (1, [.ref a1, .ref a2, .ref a3, .ref a4, .ref a5])), (a1, .inr (3, [.ref n1, .ref n2])), (n1, .inl (cI, 8, .inl md)), (n2, .inl (cJ, 8, .inr (.inl kn))), (a2, .inr (4, [.ref p1, .ref p2, .ref p3])), (p1, .inl (cJ, 12, .inr (.inl an))), (p2, .inl (cJ, 12, .inr (.inl sm))), (p3, .inl (cI, 12, .inl fl)), (a3, .inr (5, [.ref t1])), (t1, .inl (cJ, 8, .inr (.inl tf)))]) (st1 := [.int (f_wasMade md (k % 8) n)]) ⟨hx, hb, hml, hown, hts⟩ (k_NU_wasMade l dC dI cI cJ cG cZ a1 n1 n2 md kn (k % 8) n (Nat.mod_lt _ (by decide))) (cwV 2 hts (k_gV m_l_DK_73 m_i_NU_wasMade m_s_NU_wasMade m_in_NU m_c_NU_wasMade) rfl rfl rfl (by decide +kernel) ⟨Nat.le_of_ble_eq_true rfl, Nat.le_of_ble_eq_true rfl⟩) hK hF hP hD hS hA [1, 2, 3] [0, 4, 5, 6, 7, 8, 9] [0, 7, 8, 9, 1, 2, 3, 4, 5, 6] rfl rfl (by decide) (by decide) (by decide) rfl (by decide) rfl rfl rfl rfl hl.1 rfl (Nat.le_of_ble_eq_true rfl) dDK_answerOrRefuse_26 ⟨Nat.le_of_ble_eq_true rfl, Nat.le_of_ble_eq_true rfl⟩ rfl (fun H locs hP hD hS => ?_)
      refine lv_if_ne (tgt := 38) hx hb dDK_answerOrRefuse_29 (by decide) (fun c_2 => ?_) (fun c_2 => ?_)
      · refine lv_aload_n hx hb dDK_answerOrRefuse_38 rfl (lv_at hl 1 rfl) ?_
        refine va_get (D := (dC, dI)) (ci := 1) (v := .ref a1) (C := RDK) (T := TDK) (N := 5) hx hb hts inDK hown hK hP 0 rfl rfl 0 (by decide) (hts _ m_f_DK_12) (fun _ h9 => h9) rfl dDK_answerOrRefuse_39 ?_
        refine lv_iload hx hb dDK_answerOrRefuse_42 (lv_at hl 0 rfl) ?_
        refine lv_iload_n hx hb dDK_answerOrRefuse_44 rfl (lv_at hl 3 rfl) ?_
        refine k_V (wr := [(a0, .inr (1, [.ref a1, .ref a2, .ref a3, .ref a4, .ref a5])), (a2, .inr (4, [.ref p1, .ref p2, .ref p3])), (p1, .inl (cJ, 12, .inr (.inl an))), (p2, .inl (cJ, 12, .inr (.inl sm))), (p3, .inl (cI, 12, .inl fl)), (a3, .inr (5, [.ref t1])), (t1, .inl (cJ, 8, .inr (.inl tf)))]) (W1 := [(a0, .inr (1, [.ref a1, .ref a2, .ref a3, .ref a4, .ref a5])), (a1, .inr (3, [.ref n1, .ref n2])), (n1, .inl (cI, 8, .inl md)), (n2, .inl (cJ, 8, .inr (.inl kn))), (a2, .inr (4, [.ref p1, .ref p2, .ref p3])), (p1, .inl (cJ, 12, .inr (.inl an))), (p2, .inl (cJ, 12, .inr (.inl sm))), (p3, .inl (cI, 12, .inl fl)), (a3, .inr (5, [.ref t1])), (t1, .inl (cJ, 8, .inr (.inl tf)))]) (st1 := [.int (f_isKnown md kn (k % 8) n)]) ⟨hx, hb, hml, hown, hts⟩ (k_NU_isKnown l dC dI cI cJ cG cZ a1 n1 n2 md kn (k % 8) n (Nat.mod_lt _ (by decide))) (cwV 2 hts (k_gV m_l_DK_77 m_i_NU_isKnown m_s_NU_isKnown m_in_NU m_c_NU_isKnown) rfl rfl rfl (by decide +kernel) ⟨Nat.le_of_ble_eq_true rfl, Nat.le_of_ble_eq_true rfl⟩) hK hF hP hD hS hA [1, 2, 3] [0, 4, 5, 6, 7, 8, 9] [0, 7, 8, 9, 1, 2, 3, 4, 5, 6] rfl rfl (by decide) (by decide) (by decide) rfl (by decide) rfl rfl rfl rfl hl.1 rfl (Nat.le_of_ble_eq_true rfl) dDK_answerOrRefuse_45 ⟨Nat.le_of_ble_eq_true rfl, Nat.le_of_ble_eq_true rfl⟩ rfl (fun H locs hP hD hS => ?_)
        refine lv_if_ne (tgt := 57) hx hb dDK_answerOrRefuse_48 (by decide) (fun c_3 => ?_) (fun c_3 => ?_)
        · exact absurd h2 c_3
        · refine lv_aload_n hx hb dDK_answerOrRefuse_51 rfl (lv_at hl 1 rfl) ?_
          refine lv_iconst (v := 3) hx hb dDK_answerOrRefuse_52 (by decide) ?_
          refine k_V (wr := [(a1, .inr (3, [.ref n1, .ref n2])), (n1, .inl (cI, 8, .inl md)), (n2, .inl (cJ, 8, .inr (.inl kn))), (a2, .inr (4, [.ref p1, .ref p2, .ref p3])), (p1, .inl (cJ, 12, .inr (.inl an))), (p2, .inl (cJ, 12, .inr (.inl sm))), (p3, .inl (cI, 12, .inl fl))]) (W1 := [(a0, .inr (1, [.ref a1, .ref a2, .ref a3, .ref a4, .ref a5])), (a1, .inr (3, [.ref n1, .ref n2])), (n1, .inl (cI, 8, .inl md)), (n2, .inl (cJ, 8, .inr (.inl kn))), (a2, .inr (4, [.ref p1, .ref p2, .ref p3])), (p1, .inl (cJ, 12, .inr (.inl an))), (p2, .inl (cJ, 12, .inr (.inl sm))), (p3, .inl (cI, 12, .inl fl)), (a3, .inr (5, [.ref t1])), (t1, .inl (cJ, 8, .inr (.inl (vp_updL tf 3 (tf 3 + 1)))))]) (st1 := [.long ((-nI 3).toInt64)]) ⟨hx, hb, hml, hown, hts⟩ (k_DK_refuse l dC dI cI cJ cG cZ a0 a1 a2 a3 a4 a5 t1 tf 3 (by decide)) (cwV 1 hts (k_gV m_l_DK_69 m_i_DK_refuse m_s_DK_refuse m_in_DK m_c_DK_refuse) rfl rfl rfl (by decide +kernel) ⟨Nat.le_of_ble_eq_true rfl, Nat.le_of_ble_eq_true rfl⟩) hK hF hP hD hS hA [0, 8, 9] [1, 2, 3, 4, 5, 6, 7] [7, 0, 1, 2, 3, 4, 5, 6, 8, 9] rfl rfl (by decide) (by decide) (by decide) rfl (by decide) rfl rfl rfl rfl hl.1 rfl (Nat.le_of_ble_eq_true rfl) dDK_answerOrRefuse_53 ⟨Nat.le_of_ble_eq_true rfl, Nat.le_of_ble_eq_true rfl⟩ rfl (fun H locs hP hD hS => ?_)
          exact k_lret hx hb hr hlocks hP hK hD hS rfl dDK_answerOrRefuse_56 ⟨Nat.le_of_ble_eq_true rfl, Nat.le_of_ble_eq_true rfl⟩
      · exact absurd c_2 h1
    · exact absurd c_1 (by rw [f_isPart_nI hk]; decide)
  · have e1 : f_cd md kn (nI k) n = 0 := by unfold f_cd; rw [if_neg (by rw [f_isPart_nI hk]; decide), nI_clamp (by omega), if_neg h1, if_neg h2]
    rw [show f_aS md kn sm fl (nI k) n v = f_apS sm fl k v by unfold f_aS; rw [if_pos e1, nI_clamp (by omega)], show f_aF md kn fl (nI k) n = upd fl k 0 by unfold f_aF; rw [if_pos e1, nI_clamp (by omega)], show f_aT md kn tf fl (nI k) n = f_apT tf fl k n by unfold f_aT; rw [if_pos e1, nI_clamp (by omega)], show f_aA md kn an sm fl (nI k) n v = f_apA an sm fl k n v by unfold f_aA; rw [if_pos e1, nI_clamp (by omega)]]
    refine k_of (cc := cDK_answerOrRefuse) (maxL := 6) (ret := (some .long)) (by decide) rfl (Nat.le_of_ble_eq_true rfl) ?_
    intro p e s m below meth c A ls hx hb hr hlocks hml hown hts hA hP hD hK hF hl hS
    have hown : s.vm.findClass RDK = some m.cls := hown
    have hl : lv_has ls 6 [(0, .ref a0), (1, .int (nI k)), (2, .int n), (3, .long v)] := hl
    refine lv_iload_n hx hb dDK_answerOrRefuse_0 rfl (lv_at hl 1 rfl) ?_
    refine k_SN (wr := [(a0, .inr (1, [.ref a1, .ref a2, .ref a3, .ref a4, .ref a5])), (a1, .inr (3, [.ref n1, .ref n2])), (n1, .inl (cI, 8, .inl md)), (n2, .inl (cJ, 8, .inr (.inl kn))), (a2, .inr (4, [.ref p1, .ref p2, .ref p3])), (p1, .inl (cJ, 12, .inr (.inl an))), (p2, .inl (cJ, 12, .inr (.inl sm))), (p3, .inl (cI, 12, .inl fl)), (a3, .inr (5, [.ref t1])), (t1, .inl (cJ, 8, .inr (.inl tf)))]) (W1 := [(a0, .inr (1, [.ref a1, .ref a2, .ref a3, .ref a4, .ref a5])), (a1, .inr (3, [.ref n1, .ref n2])), (n1, .inl (cI, 8, .inl md)), (n2, .inl (cJ, 8, .inr (.inl kn))), (a2, .inr (4, [.ref p1, .ref p2, .ref p3])), (p1, .inl (cJ, 12, .inr (.inl an))), (p2, .inl (cJ, 12, .inr (.inl sm))), (p3, .inl (cI, 12, .inl fl)), (a3, .inr (5, [.ref t1])), (t1, .inl (cJ, 8, .inr (.inl tf)))]) (st1 := [.int (f_isPart (nI k))]) ⟨hx, hb, hml, hown, hts⟩ (k_PD_isPart l dC dI cI cJ cG cZ (nI k)) ⟨va_cnB 1 hts (k_gI m_c_PD_isPart) rfl rfl rfl (hF.1 _ (List.mem_of_getElem? (i := 5) rfl)) (hts _ m_in_PD) (by decide +kernel) ⟨Nat.le_of_ble_eq_true rfl, Nat.le_of_ble_eq_true rfl⟩, hts _ m_st_PD_isPart, trivial⟩ hK hF hP hD hS hA [] [0, 1, 2, 3, 4, 5, 6, 7, 8, 9] [0, 1, 2, 3, 4, 5, 6, 7, 8, 9] rfl rfl (by decide) (by decide) (by decide) rfl (by decide) rfl hl.1 rfl (Nat.le_of_ble_eq_true rfl) dDK_answerOrRefuse_1 ⟨Nat.le_of_ble_eq_true rfl, Nat.le_of_ble_eq_true rfl⟩ rfl (fun H locs hP hD hS => ?_)
    refine lv_if_ne (tgt := 13) hx hb dDK_answerOrRefuse_4 (by decide) (fun c_1 => ?_) (fun c_1 => ?_)
    · refine lv_iload_n hx hb dDK_answerOrRefuse_13 rfl (lv_at hl 1 rfl) ?_
      refine lv_bipush (v := 8) hx hb dDK_answerOrRefuse_14 (by decide) ?_
      refine lv_irem hx hb dDK_answerOrRefuse_16 (by decide) ?_
      refine k_topi (y := nI (k % 8)) (pk_rem (a := k) (d := 8) (by omega) (by decide) (by decide)) ?_
      refine lv_istore (lv' := [(5, .int (nI (k % 8))), (0, .ref a0), (1, .int (nI k)), (2, .int n), (3, .long v)]) hx hb dDK_answerOrRefuse_17 hl (by decide) rfl (fun ls hl => ?_)
      refine lv_aload_n hx hb dDK_answerOrRefuse_19 rfl (lv_at hl 1 rfl) ?_
      refine va_get (D := (dC, dI)) (ci := 1) (v := .ref a1) (C := RDK) (T := TDK) (N := 5) hx hb hts inDK hown hK hP 0 rfl rfl 0 (by decide) (hts _ m_f_DK_12) (fun _ h9 => h9) rfl dDK_answerOrRefuse_20 ?_
      refine lv_iload hx hb dDK_answerOrRefuse_23 (lv_at hl 0 rfl) ?_
      refine lv_iload_n hx hb dDK_answerOrRefuse_25 rfl (lv_at hl 3 rfl) ?_
      refine k_V (wr := [(a0, .inr (1, [.ref a1, .ref a2, .ref a3, .ref a4, .ref a5])), (a2, .inr (4, [.ref p1, .ref p2, .ref p3])), (p1, .inl (cJ, 12, .inr (.inl an))), (p2, .inl (cJ, 12, .inr (.inl sm))), (p3, .inl (cI, 12, .inl fl)), (a3, .inr (5, [.ref t1])), (t1, .inl (cJ, 8, .inr (.inl tf)))]) (W1 := [(a0, .inr (1, [.ref a1, .ref a2, .ref a3, .ref a4, .ref a5])), (a1, .inr (3, [.ref n1, .ref n2])), (n1, .inl (cI, 8, .inl md)), (n2, .inl (cJ, 8, .inr (.inl kn))), (a2, .inr (4, [.ref p1, .ref p2, .ref p3])), (p1, .inl (cJ, 12, .inr (.inl an))), (p2, .inl (cJ, 12, .inr (.inl sm))), (p3, .inl (cI, 12, .inl fl)), (a3, .inr (5, [.ref t1])), (t1, .inl (cJ, 8, .inr (.inl tf)))]) (st1 := [.int (f_wasMade md (k % 8) n)]) ⟨hx, hb, hml, hown, hts⟩ (k_NU_wasMade l dC dI cI cJ cG cZ a1 n1 n2 md kn (k % 8) n (Nat.mod_lt _ (by decide))) (cwV 2 hts (k_gV m_l_DK_73 m_i_NU_wasMade m_s_NU_wasMade m_in_NU m_c_NU_wasMade) rfl rfl rfl (by decide +kernel) ⟨Nat.le_of_ble_eq_true rfl, Nat.le_of_ble_eq_true rfl⟩) hK hF hP hD hS hA [1, 2, 3] [0, 4, 5, 6, 7, 8, 9] [0, 7, 8, 9, 1, 2, 3, 4, 5, 6] rfl rfl (by decide) (by decide) (by decide) rfl (by decide) rfl rfl rfl rfl hl.1 rfl (Nat.le_of_ble_eq_true rfl) dDK_answerOrRefuse_26 ⟨Nat.le_of_ble_eq_true rfl, Nat.le_of_ble_eq_true rfl⟩ rfl (fun H locs hP hD hS => ?_)
      refine lv_if_ne (tgt := 38) hx hb dDK_answerOrRefuse_29 (by decide) (fun c_2 => ?_) (fun c_2 => ?_)
      · refine lv_aload_n hx hb dDK_answerOrRefuse_38 rfl (lv_at hl 1 rfl) ?_
        refine va_get (D := (dC, dI)) (ci := 1) (v := .ref a1) (C := RDK) (T := TDK) (N := 5) hx hb hts inDK hown hK hP 0 rfl rfl 0 (by decide) (hts _ m_f_DK_12) (fun _ h9 => h9) rfl dDK_answerOrRefuse_39 ?_
        refine lv_iload hx hb dDK_answerOrRefuse_42 (lv_at hl 0 rfl) ?_
        refine lv_iload_n hx hb dDK_answerOrRefuse_44 rfl (lv_at hl 3 rfl) ?_
        refine k_V (wr := [(a0, .inr (1, [.ref a1, .ref a2, .ref a3, .ref a4, .ref a5])), (a2, .inr (4, [.ref p1, .ref p2, .ref p3])), (p1, .inl (cJ, 12, .inr (.inl an))), (p2, .inl (cJ, 12, .inr (.inl sm))), (p3, .inl (cI, 12, .inl fl)), (a3, .inr (5, [.ref t1])), (t1, .inl (cJ, 8, .inr (.inl tf)))]) (W1 := [(a0, .inr (1, [.ref a1, .ref a2, .ref a3, .ref a4, .ref a5])), (a1, .inr (3, [.ref n1, .ref n2])), (n1, .inl (cI, 8, .inl md)), (n2, .inl (cJ, 8, .inr (.inl kn))), (a2, .inr (4, [.ref p1, .ref p2, .ref p3])), (p1, .inl (cJ, 12, .inr (.inl an))), (p2, .inl (cJ, 12, .inr (.inl sm))), (p3, .inl (cI, 12, .inl fl)), (a3, .inr (5, [.ref t1])), (t1, .inl (cJ, 8, .inr (.inl tf)))]) (st1 := [.int (f_isKnown md kn (k % 8) n)]) ⟨hx, hb, hml, hown, hts⟩ (k_NU_isKnown l dC dI cI cJ cG cZ a1 n1 n2 md kn (k % 8) n (Nat.mod_lt _ (by decide))) (cwV 2 hts (k_gV m_l_DK_77 m_i_NU_isKnown m_s_NU_isKnown m_in_NU m_c_NU_isKnown) rfl rfl rfl (by decide +kernel) ⟨Nat.le_of_ble_eq_true rfl, Nat.le_of_ble_eq_true rfl⟩) hK hF hP hD hS hA [1, 2, 3] [0, 4, 5, 6, 7, 8, 9] [0, 7, 8, 9, 1, 2, 3, 4, 5, 6] rfl rfl (by decide) (by decide) (by decide) rfl (by decide) rfl rfl rfl rfl hl.1 rfl (Nat.le_of_ble_eq_true rfl) dDK_answerOrRefuse_45 ⟨Nat.le_of_ble_eq_true rfl, Nat.le_of_ble_eq_true rfl⟩ rfl (fun H locs hP hD hS => ?_)
        refine lv_if_ne (tgt := 57) hx hb dDK_answerOrRefuse_48 (by decide) (fun c_3 => ?_) (fun c_3 => ?_)
        · refine lv_aload_n hx hb dDK_answerOrRefuse_57 rfl (lv_at hl 1 rfl) ?_
          refine lv_iload_n hx hb dDK_answerOrRefuse_58 rfl (lv_at hl 2 rfl) ?_
          refine lv_iload_n hx hb dDK_answerOrRefuse_59 rfl (lv_at hl 3 rfl) ?_
          refine lv_lload_n hx hb dDK_answerOrRefuse_60 rfl (lv_at hl 4 rfl) ?_
          refine k_VW (n := 3) (hh := [(16, 28, 31, 93), (16, 28, 39, 95), (16, 28, 47, 97), (16, 28, 55, 99), (16, 28, 63, 101)]) (wr := [(a1, .inr (3, [.ref n1, .ref n2])), (n1, .inl (cI, 8, .inl md)), (n2, .inl (cJ, 8, .inr (.inl kn)))]) (W1 := [(a0, .inr (1, [.ref a1, .ref a2, .ref a3, .ref a4, .ref a5])), (a1, .inr (3, [.ref n1, .ref n2])), (n1, .inl (cI, 8, .inl md)), (n2, .inl (cJ, 8, .inr (.inl kn))), (a2, .inr (4, [.ref p1, .ref p2, .ref p3])), (p1, .inl (cJ, 12, .inr (.inl an))), (p2, .inl (cJ, 12, .inr (.inl (f_apS sm fl k v)))), (p3, .inl (cI, 12, .inl (upd fl k 0))), (a3, .inr (5, [.ref t1])), (t1, .inl (cJ, 8, .inr (.inl (f_apT tf fl k n))))]) (st1 := [.long (f_apA an sm fl k n v)]) hx hb hml hown hts (k_DK_askPart l dC dI cI cJ cG cZ a0 a1 a2 a3 a4 a5 p1 p2 p3 t1 an sm fl tf k n v hk (hg k hk) hlt) ⟨⟨Nat.le_of_ble_eq_true rfl, Nat.le_of_ble_eq_true rfl⟩, rfl, m_c_DK_askPart, m_l_DK_80, m_in_DK, by decide +kernel⟩ m_i_DK_askPart m_s_DK_askPart hK hF hP hD hS hA [0, 4, 5, 6, 7, 8, 9] [1, 2, 3] [3, 0, 1, 2, 4, 5, 6, 7, 8, 9] rfl rfl (by decide) (by decide) (by decide) rfl (by decide) rfl rfl rfl rfl hl.1 rfl (Nat.le_of_ble_eq_true rfl) dDK_answerOrRefuse_61 ⟨Nat.le_of_ble_eq_true rfl, Nat.le_of_ble_eq_true rfl⟩ rfl (fun H locs hP hD hS => ?_)
          exact k_lret hx hb hr hlocks hP hK hD hS rfl dDK_answerOrRefuse_64 ⟨Nat.le_of_ble_eq_true rfl, Nat.le_of_ble_eq_true rfl⟩
        · exact absurd c_3 h2
      · exact absurd c_2 h1
    · exact absurd c_1 (by rw [f_isPart_nI hk]; decide)

abbrev rm_DK_ask : Room := { frames := 10, cells := 1, slots := 6, locals := 183 }
set_option maxHeartbeats 4000000 in
set_option maxRecDepth 100000 in
theorem k_DK_ask (l : Launch) (dC : Nat → ClassId) (dI : Nat → Nat → Nat) (cI cJ cG cZ : ClassId) (a0 : Nat) (a1 : Nat) (a2 : Nat) (a3 : Nat) (a4 : Nat) (a5 : Nat) (n1 : Nat) (n2 : Nat) (p1 : Nat) (p2 : Nat) (p3 : Nat) (t1 : Nat) (md : Nat → Int32) (kn : Nat → Int64) (an : Nat → Int64) (sm : Nat → Int64) (fl : Nat → Int32) (tf : Nat → Int64) (x : Int32) (n : Int32) (v : Int64) (j1 : Nat) (rg : Nat → Int64) (z : Nat) (q : Nat) (hg : ∀ k : Nat, k < 12 → fl k = 0 ∨ fl k = 1 ∨ fl k = 2 ∨ fl k = 3 ∨ fl k = 4 ∨ fl k = 5) (hlt : l.stackTraces = false) (hz : z ≤ 64) (hq : q < 64) : k_M l yDK_ask wsDK_ask rm_DK_ask (dC, dI) vwCl [(cI, .int), (cJ, .long), (cG, .array .long), (cZ, .boolean)] [.ref a0, .int x, .int n, .long v] [(a0, .inr (1, [.ref a1, .ref a2, .ref a3, .ref a4, .ref a5])), (a1, .inr (3, [.ref n1, .ref n2])), (n1, .inl (cI, 8, .inl md)), (n2, .inl (cJ, 8, .inr (.inl kn))), (a2, .inr (4, [.ref p1, .ref p2, .ref p3])), (p1, .inl (cJ, 12, .inr (.inl an))), (p2, .inl (cJ, 12, .inr (.inl sm))), (p3, .inl (cI, 12, .inl fl)), (a3, .inr (5, [.ref t1])), (t1, .inl (cJ, 8, .inr (.inl tf))), (a5, .inr (2, [.ref j1, .int (nI z), .int (nI q)])), (j1, .inl (cJ, 64, .inr (.inl rg)))] (some (.long (f_aA md kn an sm fl x n v))) [(a0, .inr (1, [.ref a1, .ref a2, .ref a3, .ref a4, .ref a5])), (a1, .inr (3, [.ref n1, .ref n2])), (n1, .inl (cI, 8, .inl md)), (n2, .inl (cJ, 8, .inr (.inl kn))), (a2, .inr (4, [.ref p1, .ref p2, .ref p3])), (p1, .inl (cJ, 12, .inr (.inl an))), (p2, .inl (cJ, 12, .inr (.inl (f_aS md kn sm fl x n v)))), (p3, .inl (cI, 12, .inl (f_aF md kn fl x n))), (a3, .inr (5, [.ref t1])), (t1, .inl (cJ, 8, .inr (.inl (f_aT md kn tf fl x n)))), (a5, .inr (2, [.ref j1, .int (nI (f_js z)), .int (nI ((q + 1) % 64))])), (j1, .inl (cJ, 64, .inr (.inl (vp_updL rg q (f_aA md kn an sm fl x n v)))))] := by
  refine k_of (cc := cDK_ask) (maxL := 7) (ret := (some .long)) (by decide) rfl (Nat.le_of_ble_eq_true rfl) ?_
  intro p e s m below meth c A ls hx hb hr hlocks hml hown hts hA hP hD hK hF hl hS
  have hown : s.vm.findClass RDK = some m.cls := hown
  have hl : lv_has ls 7 [(0, .ref a0), (1, .int x), (2, .int n), (3, .long v)] := hl
  refine lv_aload_n hx hb dDK_ask_0 rfl (lv_at hl 0 rfl) ?_
  refine lv_iload_n hx hb dDK_ask_1 rfl (lv_at hl 1 rfl) ?_
  refine lv_iload_n hx hb dDK_ask_2 rfl (lv_at hl 2 rfl) ?_
  refine lv_lload_n hx hb dDK_ask_3 rfl (lv_at hl 3 rfl) ?_
  refine k_V (wr := [(a5, .inr (2, [.ref j1, .int (nI z), .int (nI q)])), (j1, .inl (cJ, 64, .inr (.inl rg)))]) (W1 := [(a0, .inr (1, [.ref a1, .ref a2, .ref a3, .ref a4, .ref a5])), (a1, .inr (3, [.ref n1, .ref n2])), (n1, .inl (cI, 8, .inl md)), (n2, .inl (cJ, 8, .inr (.inl kn))), (a2, .inr (4, [.ref p1, .ref p2, .ref p3])), (p1, .inl (cJ, 12, .inr (.inl an))), (p2, .inl (cJ, 12, .inr (.inl (f_aS md kn sm fl x n v)))), (p3, .inl (cI, 12, .inl (f_aF md kn fl x n))), (a3, .inr (5, [.ref t1])), (t1, .inl (cJ, 8, .inr (.inl (f_aT md kn tf fl x n)))), (a5, .inr (2, [.ref j1, .int (nI z), .int (nI q)])), (j1, .inl (cJ, 64, .inr (.inl rg)))]) (st1 := [.long (f_aA md kn an sm fl x n v)]) ⟨hx, hb, hml, hown, hts⟩ (k_DK_answerOrRefuse l dC dI cI cJ cG cZ a0 a1 a2 a3 a4 a5 n1 n2 p1 p2 p3 t1 md kn an sm fl tf x n v hg hlt) (cwV 3 hts (k_gV m_l_DK_58 m_i_DK_answerOrRefuse m_s_DK_answerOrRefuse m_in_DK m_c_DK_answerOrRefuse) rfl rfl rfl (by decide +kernel) ⟨Nat.le_of_ble_eq_true rfl, Nat.le_of_ble_eq_true rfl⟩) hK hF hP hD hS hA [0, 1, 2, 3, 4, 5, 6, 7, 8, 9] [10, 11] [2, 3, 4, 5, 6, 7, 8, 9, 10, 11, 0, 1] rfl rfl (by decide) (by decide) (by decide) rfl (by decide) rfl rfl rfl rfl hl.1 rfl (Nat.le_of_ble_eq_true rfl) dDK_ask_4 ⟨Nat.le_of_ble_eq_true rfl, Nat.le_of_ble_eq_true rfl⟩ rfl (fun H locs hP hD hS => ?_)
  refine lv_lstore (lv' := [(5, .long (f_aA md kn an sm fl x n v)), (0, .ref a0), (1, .int x), (2, .int n), (3, .long v)]) hx hb dDK_ask_7 hl (by decide) rfl (fun ls hl => ?_)
  refine lv_aload_n hx hb dDK_ask_9 rfl (lv_at hl 1 rfl) ?_
  refine va_get (D := (dC, dI)) (ci := 1) (v := .ref a5) (C := RDK) (T := TDK) (N := 5) hx hb hts inDK hown hK hP 0 rfl rfl 4 (by decide) (hts _ m_f_DK_42) (fun _ h9 => h9) rfl dDK_ask_10 ?_
  refine lv_lload hx hb dDK_ask_13 (lv_at hl 0 rfl) ?_
  refine k_V (wr := [(a0, .inr (1, [.ref a1, .ref a2, .ref a3, .ref a4, .ref a5])), (a1, .inr (3, [.ref n1, .ref n2])), (n1, .inl (cI, 8, .inl md)), (n2, .inl (cJ, 8, .inr (.inl kn))), (a2, .inr (4, [.ref p1, .ref p2, .ref p3])), (p1, .inl (cJ, 12, .inr (.inl an))), (p2, .inl (cJ, 12, .inr (.inl (f_aS md kn sm fl x n v)))), (p3, .inl (cI, 12, .inl (f_aF md kn fl x n))), (a3, .inr (5, [.ref t1])), (t1, .inl (cJ, 8, .inr (.inl (f_aT md kn tf fl x n))))]) (W1 := [(a0, .inr (1, [.ref a1, .ref a2, .ref a3, .ref a4, .ref a5])), (a1, .inr (3, [.ref n1, .ref n2])), (n1, .inl (cI, 8, .inl md)), (n2, .inl (cJ, 8, .inr (.inl kn))), (a2, .inr (4, [.ref p1, .ref p2, .ref p3])), (p1, .inl (cJ, 12, .inr (.inl an))), (p2, .inl (cJ, 12, .inr (.inl (f_aS md kn sm fl x n v)))), (p3, .inl (cI, 12, .inl (f_aF md kn fl x n))), (a3, .inr (5, [.ref t1])), (t1, .inl (cJ, 8, .inr (.inl (f_aT md kn tf fl x n)))), (a5, .inr (2, [.ref j1, .int (nI (f_js z)), .int (nI ((q + 1) % 64))])), (j1, .inl (cJ, 64, .inr (.inl (vp_updL rg q (f_aA md kn an sm fl x n v)))))]) (st1 := []) ⟨hx, hb, hml, hown, hts⟩ (k_JN_write l dC dI cI cJ cG cZ a5 j1 rg z q (f_aA md kn an sm fl x n v) hz hq) (cwV 1 hts (k_gV m_l_DK_62 m_i_JN_write m_s_JN_write m_in_JN m_c_JN_write) rfl rfl rfl (by decide +kernel) ⟨Nat.le_of_ble_eq_true rfl, Nat.le_of_ble_eq_true rfl⟩) hK hF hP hD hS hA [10, 11] [0, 1, 2, 3, 4, 5, 6, 7, 8, 9] [0, 1, 2, 3, 4, 5, 6, 7, 8, 9, 10, 11] rfl rfl (by decide) (by decide) (by decide) rfl (by decide) rfl rfl rfl rfl hl.1 rfl (Nat.le_of_ble_eq_true rfl) dDK_ask_15 ⟨Nat.le_of_ble_eq_true rfl, Nat.le_of_ble_eq_true rfl⟩ rfl (fun H locs hP hD hS => ?_)
  refine lv_lload hx hb dDK_ask_18 (lv_at hl 0 rfl) ?_
  exact k_lret hx hb hr hlocks hP hK hD hS rfl dDK_ask_20 ⟨Nat.le_of_ble_eq_true rfl, Nat.le_of_ble_eq_true rfl⟩
end
section
def f_tM (md : Nat → Int32) (j : Nat) : Nat → Int32 := if md j < 40 then upd md j (md j + 1) else md
def f_tK (md : Nat → Int32) (kn : Nat → Int64) (j : Nat) : Nat → Int64 := if md j < 40 then vp_updL kn j (kn j ||| f_bit (md j + 1)) else kn
theorem f_full0 {md : Nat → Int32} {j : Nat} (h : md j < 40) : f_isFull md j = 0 := if_pos h
theorem f_full1 {md : Nat → Int32} {j : Nat} (h : ¬ md j < 40) : f_isFull md j = 1 := if_neg h
theorem ite_0 {P : Prop} [Decidable P] : (if P then (1 : Int32) else 0) = 0 ↔ ¬ P := by
  by_cases h : P
  · rw [if_pos h]; exact ⟨fun h9 => absurd h9 (by decide), fun h9 => absurd h h9⟩
  · rw [if_neg h]; exact ⟨fun _ => h, fun _ => rfl⟩
theorem ite_1 {P : Prop} [Decidable P] (h : ¬ (if P then (1 : Int32) else 0) = 0) : P := by
  by_cases h1 : P
  · exact h1
  · exact absurd (if_neg h1) h
abbrev rm_DK_take : Room := { frames := 2, cells := 0, slots := 0, locals := 41 }
set_option maxHeartbeats 4000000 in
set_option maxRecDepth 100000 in
theorem k_DK_take (l : Launch) (dC : Nat → ClassId) (dI : Nat → Nat → Nat) (cI cJ cG cZ : ClassId) (a0 : Nat) (a1 : Nat) (a2 : Nat) (a3 : Nat) (a4 : Nat) (a5 : Nat) (n1 : Nat) (n2 : Nat) (c1 : Nat) (c2 : Nat) (r : Nat → Nat) (md : Nat → Int32) (kn : Nat → Int64) (sz : Nat → Int32) (vs : Nat → Nat → Int64) (k : Nat) (n : Nat) (v : Int64) (hk : k < 3) (hn : sz k = nI n) (hn1 : n < 100) : k_M l yDK_take wsDK_take rm_DK_take (dC, dI) vwCl [(cI, .int), (cJ, .long), (cG, .array .long), (cZ, .boolean)] [.ref a0, .int (nI k), .long v] [(a0, .inr (1, [.ref a1, .ref a2, .ref a3, .ref a4, .ref a5])), (a1, .inr (3, [.ref n1, .ref n2])), (n1, .inl (cI, 8, .inl md)), (n2, .inl (cJ, 8, .inr (.inl kn))), (a4, .inr (0, [.ref c1, .ref c2])), (c1, .inl (cI, 4, .inl sz)), (c2, .inl (cG, 4, .inr (.inr (.inr (.inr (f_rw r)))))), (r 0, .inl (cJ, 100, .inr (.inl (vs 0)))), (r 1, .inl (cJ, 100, .inr (.inl (vs 1)))), (r 2, .inl (cJ, 100, .inr (.inl (vs 2)))), (r 3, .inl (cJ, 100, .inr (.inl (vs 3))))] (some (.int (nI n + 1))) [(a0, .inr (1, [.ref a1, .ref a2, .ref a3, .ref a4, .ref a5])), (a1, .inr (3, [.ref n1, .ref n2])), (n1, .inl (cI, 8, .inl md)), (n2, .inl (cJ, 8, .inr (.inl kn))), (a4, .inr (0, [.ref c1, .ref c2])), (c1, .inl (cI, 4, .inl (upd sz k (nI n + 1)))), (c2, .inl (cG, 4, .inr (.inr (.inr (.inr (f_rw r)))))), (r 0, .inl (cJ, 100, .inr (.inl (f_up vs k n v 0)))), (r 1, .inl (cJ, 100, .inr (.inl (f_up vs k n v 1)))), (r 2, .inl (cJ, 100, .inr (.inl (f_up vs k n v 2)))), (r 3, .inl (cJ, 100, .inr (.inl (f_up vs k n v 3))))] := by
  refine k_of (cc := cDK_take) (maxL := 4) (ret := (some .int)) (by decide) rfl (Nat.le_of_ble_eq_true rfl) ?_
  intro p e s m below meth c A ls hx hb hr hlocks hml hown hts hA hP hD hK hF hl hS
  have hown : s.vm.findClass RDK = some m.cls := hown
  have hl : lv_has ls 4 [(0, .ref a0), (1, .int (nI k)), (2, .long v)] := hl
  refine lv_iload_n hx hb dDK_take_0 rfl (lv_at hl 1 rfl) ?_
  refine lv_iconst (v := 3) hx hb dDK_take_1 (by decide) ?_
  refine lv_icmp_ne (tgt := 27) hx hb dDK_take_2 (by decide) (fun c_1 => ?_) (fun c_1 => ?_)
  · refine lv_aload_n hx hb dDK_take_27 rfl (lv_at hl 0 rfl) ?_
    refine va_get (D := (dC, dI)) (ci := 1) (v := .ref a4) (C := RDK) (T := TDK) (N := 5) hx hb hts inDK hown hK hP 0 rfl rfl 3 (by decide) (hts _ m_f_DK_35) (fun _ h9 => h9) rfl dDK_take_28 ?_
    refine lv_iload_n hx hb dDK_take_31 rfl (lv_at hl 1 rfl) ?_
    refine lv_lload_n hx hb dDK_take_32 rfl (lv_at hl 2 rfl) ?_
    refine k_V (wr := [(a0, .inr (1, [.ref a1, .ref a2, .ref a3, .ref a4, .ref a5])), (a1, .inr (3, [.ref n1, .ref n2])), (n1, .inl (cI, 8, .inl md)), (n2, .inl (cJ, 8, .inr (.inl kn)))]) (W1 := [(a0, .inr (1, [.ref a1, .ref a2, .ref a3, .ref a4, .ref a5])), (a1, .inr (3, [.ref n1, .ref n2])), (n1, .inl (cI, 8, .inl md)), (n2, .inl (cJ, 8, .inr (.inl kn))), (a4, .inr (0, [.ref c1, .ref c2])), (c1, .inl (cI, 4, .inl (upd sz k (nI n + 1)))), (c2, .inl (cG, 4, .inr (.inr (.inr (.inr (f_rw r)))))), (r 0, .inl (cJ, 100, .inr (.inl (f_up vs k n v 0)))), (r 1, .inl (cJ, 100, .inr (.inl (f_up vs k n v 1)))), (r 2, .inl (cJ, 100, .inr (.inl (f_up vs k n v 2)))), (r 3, .inl (cJ, 100, .inr (.inl (f_up vs k n v 3))))]) (st1 := [.int (nI n + 1)]) ⟨hx, hb, hml, hown, hts⟩ (k_CV_add l dC dI cI cJ cG cZ a4 c1 c2 r sz vs k n v (by omega) hn hn1) (cwV 2 hts (k_gV m_l_DK_54 m_i_CV_add m_s_CV_add m_in_CV m_c_CV_add) rfl rfl rfl (by decide +kernel) ⟨Nat.le_of_ble_eq_true rfl, Nat.le_of_ble_eq_true rfl⟩) hK hF hP hD hS hA [4, 5, 6, 7, 8, 9, 10] [0, 1, 2, 3] [0, 1, 2, 3, 4, 5, 6, 7, 8, 9, 10] rfl rfl (by decide) (by decide) (by decide) rfl (by decide) rfl rfl rfl rfl hl.1 rfl (Nat.le_of_ble_eq_true rfl) dDK_take_33 ⟨Nat.le_of_ble_eq_true rfl, Nat.le_of_ble_eq_true rfl⟩ rfl (fun H locs hP hD hS => ?_)
    exact k_iret hx hb hr hlocks hP hK hD hS rfl dDK_take_36 ⟨Nat.le_of_ble_eq_true rfl, Nat.le_of_ble_eq_true rfl⟩
  · exact absurd ((nI_eq (b := 3) (by omega) (by decide)).mp (show nI k = nI 3 from c_1)) (by omega)

set_option maxHeartbeats 4000000 in
set_option maxRecDepth 100000 in
theorem k_DK_take_3 (l : Launch) (dC : Nat → ClassId) (dI : Nat → Nat → Nat) (cI cJ cG cZ : ClassId) (a0 : Nat) (a1 : Nat) (a2 : Nat) (a3 : Nat) (a4 : Nat) (a5 : Nat) (n1 : Nat) (n2 : Nat) (c1 : Nat) (c2 : Nat) (r : Nat → Nat) (md : Nat → Int32) (kn : Nat → Int64) (sz : Nat → Int32) (vs : Nat → Nat → Int64) (n : Nat) (j : Nat) (v : Int64) (hn : sz 3 = nI n) (hn1 : n < 100) (hj : j < 8) (hv : v.toInt32 = nI j) : k_M l yDK_take wsDK_take rm_DK_take (dC, dI) vwCl [(cI, .int), (cJ, .long), (cG, .array .long), (cZ, .boolean)] [.ref a0, .int (nI 3), .long v] [(a0, .inr (1, [.ref a1, .ref a2, .ref a3, .ref a4, .ref a5])), (a1, .inr (3, [.ref n1, .ref n2])), (n1, .inl (cI, 8, .inl md)), (n2, .inl (cJ, 8, .inr (.inl kn))), (a4, .inr (0, [.ref c1, .ref c2])), (c1, .inl (cI, 4, .inl sz)), (c2, .inl (cG, 4, .inr (.inr (.inr (.inr (f_rw r)))))), (r 0, .inl (cJ, 100, .inr (.inl (vs 0)))), (r 1, .inl (cJ, 100, .inr (.inl (vs 1)))), (r 2, .inl (cJ, 100, .inr (.inl (vs 2)))), (r 3, .inl (cJ, 100, .inr (.inl (vs 3))))] (some (.int (nI n + 1))) [(a0, .inr (1, [.ref a1, .ref a2, .ref a3, .ref a4, .ref a5])), (a1, .inr (3, [.ref n1, .ref n2])), (n1, .inl (cI, 8, .inl (f_tM md j))), (n2, .inl (cJ, 8, .inr (.inl (f_tK md kn j)))), (a4, .inr (0, [.ref c1, .ref c2])), (c1, .inl (cI, 4, .inl (upd sz 3 (nI n + 1)))), (c2, .inl (cG, 4, .inr (.inr (.inr (.inr (f_rw r)))))), (r 0, .inl (cJ, 100, .inr (.inl (f_up vs 3 n v 0)))), (r 1, .inl (cJ, 100, .inr (.inl (f_up vs 3 n v 1)))), (r 2, .inl (cJ, 100, .inr (.inl (f_up vs 3 n v 2)))), (r 3, .inl (cJ, 100, .inr (.inl (f_up vs 3 n v 3))))] := by
  by_cases h0 : md j < 40
  · rw [show f_tM md j = upd md j (md j + 1) from if_pos h0, show f_tK md kn j = vp_updL kn j (kn j ||| f_bit (md j + 1)) from if_pos h0]
    refine k_of (cc := cDK_take) (maxL := 4) (ret := (some .int)) (by decide) rfl (Nat.le_of_ble_eq_true rfl) ?_
    intro p e s m below meth c A ls hx hb hr hlocks hml hown hts hA hP hD hK hF hl hS
    have hown : s.vm.findClass RDK = some m.cls := hown
    have hl : lv_has ls 4 [(0, .ref a0), (1, .int (nI 3)), (2, .long v)] := hl
    refine lv_iload_n hx hb dDK_take_0 rfl (lv_at hl 1 rfl) ?_
    refine lv_iconst (v := 3) hx hb dDK_take_1 (by decide) ?_
    refine lv_icmp_ne (tgt := 27) hx hb dDK_take_2 (by decide) (fun c_1 => ?_) (fun c_1 => ?_)
    · exact absurd (show nI 3 = 3 by decide) c_1
    · refine lv_aload_n hx hb dDK_take_5 rfl (lv_at hl 0 rfl) ?_
      refine va_get (D := (dC, dI)) (ci := 1) (v := .ref a1) (C := RDK) (T := TDK) (N := 5) hx hb hts inDK hown hK hP 0 rfl rfl 0 (by decide) (hts _ m_f_DK_12) (fun _ h9 => h9) rfl dDK_take_6 ?_
      refine lv_lload_n hx hb dDK_take_9 rfl (lv_at hl 2 rfl) ?_
      refine lv_l2i hx hb dDK_take_10 rfl ?_
      refine k_topi (y := nI j) hv ?_
      refine k_V (wr := [(a0, .inr (1, [.ref a1, .ref a2, .ref a3, .ref a4, .ref a5])), (a4, .inr (0, [.ref c1, .ref c2])), (c1, .inl (cI, 4, .inl sz)), (c2, .inl (cG, 4, .inr (.inr (.inr (.inr (f_rw r)))))), (r 0, .inl (cJ, 100, .inr (.inl (vs 0)))), (r 1, .inl (cJ, 100, .inr (.inl (vs 1)))), (r 2, .inl (cJ, 100, .inr (.inl (vs 2)))), (r 3, .inl (cJ, 100, .inr (.inl (vs 3))))]) (W1 := [(a0, .inr (1, [.ref a1, .ref a2, .ref a3, .ref a4, .ref a5])), (a1, .inr (3, [.ref n1, .ref n2])), (n1, .inl (cI, 8, .inl md)), (n2, .inl (cJ, 8, .inr (.inl kn))), (a4, .inr (0, [.ref c1, .ref c2])), (c1, .inl (cI, 4, .inl sz)), (c2, .inl (cG, 4, .inr (.inr (.inr (.inr (f_rw r)))))), (r 0, .inl (cJ, 100, .inr (.inl (vs 0)))), (r 1, .inl (cJ, 100, .inr (.inl (vs 1)))), (r 2, .inl (cJ, 100, .inr (.inl (vs 2)))), (r 3, .inl (cJ, 100, .inr (.inl (vs 3))))]) (st1 := [.int (f_isFull md j)]) ⟨hx, hb, hml, hown, hts⟩ (k_NU_isFull l dC dI cI cJ cG cZ a1 n1 n2 md kn j hj) (cwV 1 hts (k_gV m_l_DK_46 m_i_NU_isFull m_s_NU_isFull m_in_NU m_c_NU_isFull) rfl rfl rfl (by decide +kernel) ⟨Nat.le_of_ble_eq_true rfl, Nat.le_of_ble_eq_true rfl⟩) hK hF hP hD hS hA [1, 2, 3] [0, 4, 5, 6, 7, 8, 9, 10] [0, 8, 9, 10, 1, 2, 3, 4, 5, 6, 7] rfl rfl (by decide) (by decide) (by decide) rfl (by decide) rfl rfl rfl rfl hl.1 rfl (Nat.le_of_ble_eq_true rfl) dDK_take_11 ⟨Nat.le_of_ble_eq_true rfl, Nat.le_of_ble_eq_true rfl⟩ rfl (fun H locs hP hD hS => ?_)
      refine lv_if_ne (tgt := 27) hx hb dDK_take_14 (by decide) (fun c_2 => ?_) (fun c_2 => ?_)
      · exact absurd (f_full0 h0) c_2
      · refine lv_aload_n hx hb dDK_take_17 rfl (lv_at hl 0 rfl) ?_
        refine va_get (D := (dC, dI)) (ci := 1) (v := .ref a1) (C := RDK) (T := TDK) (N := 5) hx hb hts inDK hown hK hP 0 rfl rfl 0 (by decide) (hts _ m_f_DK_12) (fun _ h9 => h9) rfl dDK_take_18 ?_
        refine lv_lload_n hx hb dDK_take_21 rfl (lv_at hl 2 rfl) ?_
        refine lv_l2i hx hb dDK_take_22 rfl ?_
        refine k_topi (y := nI j) hv ?_
        refine k_V (wr := [(a0, .inr (1, [.ref a1, .ref a2, .ref a3, .ref a4, .ref a5])), (a4, .inr (0, [.ref c1, .ref c2])), (c1, .inl (cI, 4, .inl sz)), (c2, .inl (cG, 4, .inr (.inr (.inr (.inr (f_rw r)))))), (r 0, .inl (cJ, 100, .inr (.inl (vs 0)))), (r 1, .inl (cJ, 100, .inr (.inl (vs 1)))), (r 2, .inl (cJ, 100, .inr (.inl (vs 2)))), (r 3, .inl (cJ, 100, .inr (.inl (vs 3))))]) (W1 := [(a0, .inr (1, [.ref a1, .ref a2, .ref a3, .ref a4, .ref a5])), (a1, .inr (3, [.ref n1, .ref n2])), (n1, .inl (cI, 8, .inl (upd md j (md j + 1)))), (n2, .inl (cJ, 8, .inr (.inl (vp_updL kn j (kn j ||| f_bit (md j + 1)))))), (a4, .inr (0, [.ref c1, .ref c2])), (c1, .inl (cI, 4, .inl sz)), (c2, .inl (cG, 4, .inr (.inr (.inr (.inr (f_rw r)))))), (r 0, .inl (cJ, 100, .inr (.inl (vs 0)))), (r 1, .inl (cJ, 100, .inr (.inl (vs 1)))), (r 2, .inl (cJ, 100, .inr (.inl (vs 2)))), (r 3, .inl (cJ, 100, .inr (.inl (vs 3))))]) (st1 := [.int (md j + 1)]) ⟨hx, hb, hml, hown, hts⟩ (k_NU_makeNext l dC dI cI cJ cG cZ a1 n1 n2 md kn j hj) (cwV 1 hts (k_gV m_l_DK_50 m_i_NU_makeNext m_s_NU_makeNext m_in_NU m_c_NU_makeNext) rfl rfl rfl (by decide +kernel) ⟨Nat.le_of_ble_eq_true rfl, Nat.le_of_ble_eq_true rfl⟩) hK hF hP hD hS hA [1, 2, 3] [0, 4, 5, 6, 7, 8, 9, 10] [0, 8, 9, 10, 1, 2, 3, 4, 5, 6, 7] rfl rfl (by decide) (by decide) (by decide) rfl (by decide) rfl rfl rfl rfl hl.1 rfl (Nat.le_of_ble_eq_true rfl) dDK_take_23 ⟨Nat.le_of_ble_eq_true rfl, Nat.le_of_ble_eq_true rfl⟩ rfl (fun H locs hP hD hS => ?_)
        refine lv_pop hx hb dDK_take_26 rfl ?_
        refine lv_aload_n hx hb dDK_take_27 rfl (lv_at hl 0 rfl) ?_
        refine va_get (D := (dC, dI)) (ci := 1) (v := .ref a4) (C := RDK) (T := TDK) (N := 5) hx hb hts inDK hown hK hP 0 rfl rfl 3 (by decide) (hts _ m_f_DK_35) (fun _ h9 => h9) rfl dDK_take_28 ?_
        refine lv_iload_n hx hb dDK_take_31 rfl (lv_at hl 1 rfl) ?_
        refine lv_lload_n hx hb dDK_take_32 rfl (lv_at hl 2 rfl) ?_
        refine k_V (wr := [(a0, .inr (1, [.ref a1, .ref a2, .ref a3, .ref a4, .ref a5])), (a1, .inr (3, [.ref n1, .ref n2])), (n1, .inl (cI, 8, .inl (upd md j (md j + 1)))), (n2, .inl (cJ, 8, .inr (.inl (vp_updL kn j (kn j ||| f_bit (md j + 1))))))]) (W1 := [(a0, .inr (1, [.ref a1, .ref a2, .ref a3, .ref a4, .ref a5])), (a1, .inr (3, [.ref n1, .ref n2])), (n1, .inl (cI, 8, .inl (upd md j (md j + 1)))), (n2, .inl (cJ, 8, .inr (.inl (vp_updL kn j (kn j ||| f_bit (md j + 1)))))), (a4, .inr (0, [.ref c1, .ref c2])), (c1, .inl (cI, 4, .inl (upd sz 3 (nI n + 1)))), (c2, .inl (cG, 4, .inr (.inr (.inr (.inr (f_rw r)))))), (r 0, .inl (cJ, 100, .inr (.inl (f_up vs 3 n v 0)))), (r 1, .inl (cJ, 100, .inr (.inl (f_up vs 3 n v 1)))), (r 2, .inl (cJ, 100, .inr (.inl (f_up vs 3 n v 2)))), (r 3, .inl (cJ, 100, .inr (.inl (f_up vs 3 n v 3))))]) (st1 := [.int (nI n + 1)]) ⟨hx, hb, hml, hown, hts⟩ (k_CV_add l dC dI cI cJ cG cZ a4 c1 c2 r sz vs 3 n v (by decide) hn hn1) (cwV 2 hts (k_gV m_l_DK_54 m_i_CV_add m_s_CV_add m_in_CV m_c_CV_add) rfl rfl rfl (by decide +kernel) ⟨Nat.le_of_ble_eq_true rfl, Nat.le_of_ble_eq_true rfl⟩) hK hF hP hD hS hA [4, 5, 6, 7, 8, 9, 10] [0, 1, 2, 3] [0, 1, 2, 3, 4, 5, 6, 7, 8, 9, 10] rfl rfl (by decide) (by decide) (by decide) rfl (by decide) rfl rfl rfl rfl hl.1 rfl (Nat.le_of_ble_eq_true rfl) dDK_take_33 ⟨Nat.le_of_ble_eq_true rfl, Nat.le_of_ble_eq_true rfl⟩ rfl (fun H locs hP hD hS => ?_)
        exact k_iret hx hb hr hlocks hP hK hD hS rfl dDK_take_36 ⟨Nat.le_of_ble_eq_true rfl, Nat.le_of_ble_eq_true rfl⟩
  · rw [show f_tM md j = md from if_neg h0, show f_tK md kn j = kn from if_neg h0]
    refine k_of (cc := cDK_take) (maxL := 4) (ret := (some .int)) (by decide) rfl (Nat.le_of_ble_eq_true rfl) ?_
    intro p e s m below meth c A ls hx hb hr hlocks hml hown hts hA hP hD hK hF hl hS
    have hown : s.vm.findClass RDK = some m.cls := hown
    have hl : lv_has ls 4 [(0, .ref a0), (1, .int (nI 3)), (2, .long v)] := hl
    refine lv_iload_n hx hb dDK_take_0 rfl (lv_at hl 1 rfl) ?_
    refine lv_iconst (v := 3) hx hb dDK_take_1 (by decide) ?_
    refine lv_icmp_ne (tgt := 27) hx hb dDK_take_2 (by decide) (fun c_1 => ?_) (fun c_1 => ?_)
    · exact absurd (show nI 3 = 3 by decide) c_1
    · refine lv_aload_n hx hb dDK_take_5 rfl (lv_at hl 0 rfl) ?_
      refine va_get (D := (dC, dI)) (ci := 1) (v := .ref a1) (C := RDK) (T := TDK) (N := 5) hx hb hts inDK hown hK hP 0 rfl rfl 0 (by decide) (hts _ m_f_DK_12) (fun _ h9 => h9) rfl dDK_take_6 ?_
      refine lv_lload_n hx hb dDK_take_9 rfl (lv_at hl 2 rfl) ?_
      refine lv_l2i hx hb dDK_take_10 rfl ?_
      refine k_topi (y := nI j) hv ?_
      refine k_V (wr := [(a0, .inr (1, [.ref a1, .ref a2, .ref a3, .ref a4, .ref a5])), (a4, .inr (0, [.ref c1, .ref c2])), (c1, .inl (cI, 4, .inl sz)), (c2, .inl (cG, 4, .inr (.inr (.inr (.inr (f_rw r)))))), (r 0, .inl (cJ, 100, .inr (.inl (vs 0)))), (r 1, .inl (cJ, 100, .inr (.inl (vs 1)))), (r 2, .inl (cJ, 100, .inr (.inl (vs 2)))), (r 3, .inl (cJ, 100, .inr (.inl (vs 3))))]) (W1 := [(a0, .inr (1, [.ref a1, .ref a2, .ref a3, .ref a4, .ref a5])), (a1, .inr (3, [.ref n1, .ref n2])), (n1, .inl (cI, 8, .inl md)), (n2, .inl (cJ, 8, .inr (.inl kn))), (a4, .inr (0, [.ref c1, .ref c2])), (c1, .inl (cI, 4, .inl sz)), (c2, .inl (cG, 4, .inr (.inr (.inr (.inr (f_rw r)))))), (r 0, .inl (cJ, 100, .inr (.inl (vs 0)))), (r 1, .inl (cJ, 100, .inr (.inl (vs 1)))), (r 2, .inl (cJ, 100, .inr (.inl (vs 2)))), (r 3, .inl (cJ, 100, .inr (.inl (vs 3))))]) (st1 := [.int (f_isFull md j)]) ⟨hx, hb, hml, hown, hts⟩ (k_NU_isFull l dC dI cI cJ cG cZ a1 n1 n2 md kn j hj) (cwV 1 hts (k_gV m_l_DK_46 m_i_NU_isFull m_s_NU_isFull m_in_NU m_c_NU_isFull) rfl rfl rfl (by decide +kernel) ⟨Nat.le_of_ble_eq_true rfl, Nat.le_of_ble_eq_true rfl⟩) hK hF hP hD hS hA [1, 2, 3] [0, 4, 5, 6, 7, 8, 9, 10] [0, 8, 9, 10, 1, 2, 3, 4, 5, 6, 7] rfl rfl (by decide) (by decide) (by decide) rfl (by decide) rfl rfl rfl rfl hl.1 rfl (Nat.le_of_ble_eq_true rfl) dDK_take_11 ⟨Nat.le_of_ble_eq_true rfl, Nat.le_of_ble_eq_true rfl⟩ rfl (fun H locs hP hD hS => ?_)
      refine lv_if_ne (tgt := 27) hx hb dDK_take_14 (by decide) (fun c_2 => ?_) (fun c_2 => ?_)
      · refine lv_aload_n hx hb dDK_take_27 rfl (lv_at hl 0 rfl) ?_
        refine va_get (D := (dC, dI)) (ci := 1) (v := .ref a4) (C := RDK) (T := TDK) (N := 5) hx hb hts inDK hown hK hP 0 rfl rfl 3 (by decide) (hts _ m_f_DK_35) (fun _ h9 => h9) rfl dDK_take_28 ?_
        refine lv_iload_n hx hb dDK_take_31 rfl (lv_at hl 1 rfl) ?_
        refine lv_lload_n hx hb dDK_take_32 rfl (lv_at hl 2 rfl) ?_
        refine k_V (wr := [(a0, .inr (1, [.ref a1, .ref a2, .ref a3, .ref a4, .ref a5])), (a1, .inr (3, [.ref n1, .ref n2])), (n1, .inl (cI, 8, .inl md)), (n2, .inl (cJ, 8, .inr (.inl kn)))]) (W1 := [(a0, .inr (1, [.ref a1, .ref a2, .ref a3, .ref a4, .ref a5])), (a1, .inr (3, [.ref n1, .ref n2])), (n1, .inl (cI, 8, .inl md)), (n2, .inl (cJ, 8, .inr (.inl kn))), (a4, .inr (0, [.ref c1, .ref c2])), (c1, .inl (cI, 4, .inl (upd sz 3 (nI n + 1)))), (c2, .inl (cG, 4, .inr (.inr (.inr (.inr (f_rw r)))))), (r 0, .inl (cJ, 100, .inr (.inl (f_up vs 3 n v 0)))), (r 1, .inl (cJ, 100, .inr (.inl (f_up vs 3 n v 1)))), (r 2, .inl (cJ, 100, .inr (.inl (f_up vs 3 n v 2)))), (r 3, .inl (cJ, 100, .inr (.inl (f_up vs 3 n v 3))))]) (st1 := [.int (nI n + 1)]) ⟨hx, hb, hml, hown, hts⟩ (k_CV_add l dC dI cI cJ cG cZ a4 c1 c2 r sz vs 3 n v (by decide) hn hn1) (cwV 2 hts (k_gV m_l_DK_54 m_i_CV_add m_s_CV_add m_in_CV m_c_CV_add) rfl rfl rfl (by decide +kernel) ⟨Nat.le_of_ble_eq_true rfl, Nat.le_of_ble_eq_true rfl⟩) hK hF hP hD hS hA [4, 5, 6, 7, 8, 9, 10] [0, 1, 2, 3] [0, 1, 2, 3, 4, 5, 6, 7, 8, 9, 10] rfl rfl (by decide) (by decide) (by decide) rfl (by decide) rfl rfl rfl rfl hl.1 rfl (Nat.le_of_ble_eq_true rfl) dDK_take_33 ⟨Nat.le_of_ble_eq_true rfl, Nat.le_of_ble_eq_true rfl⟩ rfl (fun H locs hP hD hS => ?_)
        exact k_iret hx hb hr hlocks hP hK hD hS rfl dDK_take_36 ⟨Nat.le_of_ble_eq_true rfl, Nat.le_of_ble_eq_true rfl⟩
      · exact absurd c_2 (by rw [f_full1 h0]; decide)
abbrev rm_CV_isLike : Room := { frames := 0, cells := 0, slots := 0, locals := 0 }
set_option maxHeartbeats 4000000 in
set_option maxRecDepth 100000 in
theorem k_CV_isLike (l : Launch) (dC : Nat → ClassId) (dI : Nat → Nat → Nat) (cI cJ cG cZ : ClassId) (h0 : Nat) (h1 : Nat) (h2 : Nat) (g0 : Nat) (g1 : Nat) (g2 : Nat) (r : Nat → Nat) (rr : Nat → Nat) (sz : Nat → Int32) (v : Nat → Nat → Int64) (ns : Nat → Nat) (hns : ∀ k : Nat, k < 4 → sz k = nI (ns k) ∧ ns k ≤ 100) : k_M l yCV_isLike wsCV_isLike rm_CV_isLike (dC, dI) vwCl [(cI, .int), (cJ, .long), (cG, .array .long), (cZ, .boolean)] [.ref h0, .ref g0] [(h0, .inr (0, [.ref h1, .ref h2])), (h1, .inl (cI, 4, .inl sz)), (h2, .inl (cG, 4, .inr (.inr (.inr (.inr (f_rw r)))))), (r 0, .inl (cJ, 100, .inr (.inl (v 0)))), (r 1, .inl (cJ, 100, .inr (.inl (v 1)))), (r 2, .inl (cJ, 100, .inr (.inl (v 2)))), (r 3, .inl (cJ, 100, .inr (.inl (v 3)))), (g0, .inr (0, [.ref g1, .ref g2])), (g1, .inl (cI, 4, .inl sz)), (g2, .inl (cG, 4, .inr (.inr (.inr (.inr (f_rw rr)))))), (rr 0, .inl (cJ, 100, .inr (.inl (v 0)))), (rr 1, .inl (cJ, 100, .inr (.inl (v 1)))), (rr 2, .inl (cJ, 100, .inr (.inl (v 2)))), (rr 3, .inl (cJ, 100, .inr (.inl (v 3))))] (some (.int 1)) [(h0, .inr (0, [.ref h1, .ref h2])), (h1, .inl (cI, 4, .inl sz)), (h2, .inl (cG, 4, .inr (.inr (.inr (.inr (f_rw r)))))), (r 0, .inl (cJ, 100, .inr (.inl (v 0)))), (r 1, .inl (cJ, 100, .inr (.inl (v 1)))), (r 2, .inl (cJ, 100, .inr (.inl (v 2)))), (r 3, .inl (cJ, 100, .inr (.inl (v 3)))), (g0, .inr (0, [.ref g1, .ref g2])), (g1, .inl (cI, 4, .inl sz)), (g2, .inl (cG, 4, .inr (.inr (.inr (.inr (f_rw rr)))))), (rr 0, .inl (cJ, 100, .inr (.inl (v 0)))), (rr 1, .inl (cJ, 100, .inr (.inl (v 1)))), (rr 2, .inl (cJ, 100, .inr (.inl (v 2)))), (rr 3, .inl (cJ, 100, .inr (.inl (v 3))))] := by
  refine k_of (cc := cCV_isLike) (maxL := 4) (ret := (some .boolean)) (by decide) rfl (Nat.le_of_ble_eq_true rfl) ?_
  intro p e s m below meth c A ls hx hb hr hlocks hml hown hts hA hP hD hK hF hl hS
  have hown : s.vm.findClass RCV = some m.cls := hown
  have hl : lv_has ls 4 [(0, .ref h0), (1, .ref g0)] := hl
  refine lv_iconst (v := 0) hx hb dCV_isLike_0 (by decide) ?_
  refine lv_istore_n (lv' := [(2, .int 0), (0, .ref h0), (1, .ref g0)]) hx hb dCV_isLike_1 rfl hl (by decide) rfl (fun ls hl => ?_)
  refine lv_iload_n hx hb dCV_isLike_2 rfl (lv_at hl 0 rfl) ?_
  refine lv_iconst (v := 4) hx hb dCV_isLike_3 (by decide) ?_
  refine lv_icmp_ge (tgt := 70) hx hb dCV_isLike_4 (by decide) (fun c_1 => ?_) (fun c_1 => ?_)
  · exact absurd c_1 (by decide)
  · refine lv_aload_n hx hb dCV_isLike_7 rfl (lv_at hl 1 rfl) ?_
    refine va_get (D := (dC, dI)) (ci := 0) (v := .ref h1) (C := RCV) (T := TCV) (N := 2) hx hb hts inCV hown hK hP 0 rfl rfl 0 (by decide) (hts _ m_f_CV_9) (fun _ h9 => h9) rfl dCV_isLike_8 ?_
    refine lv_iload_n hx hb dCV_isLike_11 rfl (lv_at hl 0 rfl) ?_
    refine k_ild (v := sz 0) hx hb hK hP 1 0 rfl rfl (j := 0) (by decide) (by decide) (by decide) rfl dCV_isLike_12 ?_
    refine lv_aload_n hx hb dCV_isLike_13 rfl (lv_at hl 2 rfl) ?_
    refine va_get (D := (dC, dI)) (ci := 0) (v := .ref g1) (C := RCV) (T := TCV) (N := 2) hx hb hts inCV hown hK hP 7 rfl rfl 0 (by decide) (hts _ m_f_CV_9) (fun _ h9 => h9) rfl dCV_isLike_14 ?_
    refine lv_iload_n hx hb dCV_isLike_17 rfl (lv_at hl 0 rfl) ?_
    refine k_ild (v := sz 0) hx hb hK hP 8 0 rfl rfl (j := 0) (by decide) (by decide) (by decide) rfl dCV_isLike_18 ?_
    refine lv_icmp_eq (tgt := 24) hx hb dCV_isLike_19 (by decide) (fun c_2 => ?_) (fun c_2 => ?_)
    · refine lv_iconst (v := 0) hx hb dCV_isLike_24 (by decide) ?_
      refine lv_istore_n (lv' := [(3, .int 0), (2, .int 0), (0, .ref h0), (1, .ref g0)]) hx hb dCV_isLike_25 rfl hl (by decide) rfl (fun ls hl => ?_)
      have hl : lv_has ls 4 [(3, .int (nI 0)), (2, .int 0), (0, .ref h0), (1, .ref g0)] := hl
      have hb0 := (hns 0 (by decide)).2
      have lp : ∀ (n j0 : Nat), ns 0 < j0 + n → j0 ≤ ns 0 → ∀ (H : Heap) (locs : List Loc), va_P (dC, dI) vwCl [(h0, .inr (0, [.ref h1, .ref h2])), (h1, .inl (cI, 4, .inl sz)), (h2, .inl (cG, 4, .inr (.inr (.inr (.inr (f_rw r)))))), (r 0, .inl (cJ, 100, .inr (.inl (v 0)))), (r 1, .inl (cJ, 100, .inr (.inl (v 1)))), (r 2, .inl (cJ, 100, .inr (.inl (v 2)))), (r 3, .inl (cJ, 100, .inr (.inl (v 3)))), (g0, .inr (0, [.ref g1, .ref g2])), (g1, .inl (cI, 4, .inl sz)), (g2, .inl (cG, 4, .inr (.inr (.inr (.inr (f_rw rr)))))), (rr 0, .inl (cJ, 100, .inr (.inl (v 0)))), (rr 1, .inl (cJ, 100, .inr (.inl (v 1)))), (rr 2, .inl (cJ, 100, .inr (.inl (v 2)))), (rr 3, .inl (cJ, 100, .inr (.inl (v 3))))] H → va_D A [(h0, .inr (0, [.ref h1, .ref h2])), (h1, .inl (cI, 4, .inl sz)), (h2, .inl (cG, 4, .inr (.inr (.inr (.inr (f_rw r)))))), (r 0, .inl (cJ, 100, .inr (.inl (v 0)))), (r 1, .inl (cJ, 100, .inr (.inl (v 1)))), (r 2, .inl (cJ, 100, .inr (.inl (v 2)))), (r 3, .inl (cJ, 100, .inr (.inl (v 3)))), (g0, .inr (0, [.ref g1, .ref g2])), (g1, .inl (cI, 4, .inl sz)), (g2, .inl (cG, 4, .inr (.inr (.inr (.inr (f_rw rr)))))), (rr 0, .inl (cJ, 100, .inr (.inl (v 0)))), (rr 1, .inl (cJ, 100, .inr (.inl (v 1)))), (rr 2, .inl (cJ, 100, .inr (.inl (v 2)))), (rr 3, .inl (cJ, 100, .inr (.inl (v 3))))] → va_S A s.heap H locs → ∀ (ls : Array Slot), lv_has ls 4 [(3, .int (nI j0)), (2, .int 0), (0, .ref h0), (1, .ref g0)] → W p l e rm_CV_isLike s m ([.ref h0, .ref g0] : List Value).toArray below meth c H locs 0 0 (MQ below (k_Q (dC, dI) vwCl [(cI, .int), (cJ, .long), (cG, .array .long), (cZ, .boolean)] (some (.int 1)) [(h0, .inr (0, [.ref h1, .ref h2])), (h1, .inl (cI, 4, .inl sz)), (h2, .inl (cG, 4, .inr (.inr (.inr (.inr (f_rw r)))))), (r 0, .inl (cJ, 100, .inr (.inl (v 0)))), (r 1, .inl (cJ, 100, .inr (.inl (v 1)))), (r 2, .inl (cJ, 100, .inr (.inl (v 2)))), (r 3, .inl (cJ, 100, .inr (.inl (v 3)))), (g0, .inr (0, [.ref g1, .ref g2])), (g1, .inl (cI, 4, .inl sz)), (g2, .inl (cG, 4, .inr (.inr (.inr (.inr (f_rw rr)))))), (rr 0, .inl (cJ, 100, .inr (.inl (v 0)))), (rr 1, .inl (cJ, 100, .inr (.inl (v 1)))), (rr 2, .inl (cJ, 100, .inr (.inl (v 2)))), (rr 3, .inl (cJ, 100, .inr (.inl (v 3))))] A) ([.ref h0, .ref g0] : List Value).toArray s rm_CV_isLike.cells rm_CV_isLike.slots A) (F0 m 26 ls []) := by
        intro n
        induction n with
        | zero => intro j0 h8 h9; exact absurd h8 (by omega)
        | succ n ih =>
          intro j0 hn hle H locs hP hD hS ls hl
          refine lv_iload_n hx hb dCV_isLike_26 rfl (lv_at hl 0 rfl) ?_
          refine lv_aload_n hx hb dCV_isLike_27 rfl (lv_at hl 2 rfl) ?_
          refine va_get (D := (dC, dI)) (ci := 0) (v := .ref h1) (C := RCV) (T := TCV) (N := 2) hx hb hts inCV hown hK hP 0 rfl rfl 0 (by decide) (hts _ m_f_CV_9) (fun _ h9 => h9) rfl dCV_isLike_28 ?_
          refine lv_iload_n hx hb dCV_isLike_31 rfl (lv_at hl 1 rfl) ?_
          refine k_ild (v := sz 0) hx hb hK hP 1 0 rfl rfl (j := 0) (by decide) (by decide) (by decide) rfl dCV_isLike_32 ?_
          refine k_topi (y := nI (ns 0)) ((hns 0 (by decide)).1) ?_
          refine lv_icmp_ge (tgt := 64) hx hb dCV_isLike_33 (by decide) (fun c_3 => ?_) (fun c_3 => ?_)
          · refine lv_iinc (v := 1) (lv' := [(2, .int 1), (3, .int (nI j0)), (0, .ref h0), (1, .ref g0)]) hx hb dCV_isLike_64 hl (k := 1) rfl (by decide) (by decide) rfl (fun ls hl => ?_)
            refine lv_goto (tgt := 2) hx hb dCV_isLike_67 (by decide) ?_
            refine lv_iload_n hx hb dCV_isLike_2 rfl (lv_at hl 0 rfl) ?_
            refine lv_iconst (v := 4) hx hb dCV_isLike_3 (by decide) ?_
            refine lv_icmp_ge (tgt := 70) hx hb dCV_isLike_4 (by decide) (fun c_4 => ?_) (fun c_4 => ?_)
            · exact absurd c_4 (by decide)
            · refine lv_aload_n hx hb dCV_isLike_7 rfl (lv_at hl 2 rfl) ?_
              refine va_get (D := (dC, dI)) (ci := 0) (v := .ref h1) (C := RCV) (T := TCV) (N := 2) hx hb hts inCV hown hK hP 0 rfl rfl 0 (by decide) (hts _ m_f_CV_9) (fun _ h9 => h9) rfl dCV_isLike_8 ?_
              refine lv_iload_n hx hb dCV_isLike_11 rfl (lv_at hl 0 rfl) ?_
              refine k_ild (v := sz 1) hx hb hK hP 1 0 rfl rfl (j := 1) (by decide) (by decide) (by decide) rfl dCV_isLike_12 ?_
              refine lv_aload_n hx hb dCV_isLike_13 rfl (lv_at hl 3 rfl) ?_
              refine va_get (D := (dC, dI)) (ci := 0) (v := .ref g1) (C := RCV) (T := TCV) (N := 2) hx hb hts inCV hown hK hP 7 rfl rfl 0 (by decide) (hts _ m_f_CV_9) (fun _ h9 => h9) rfl dCV_isLike_14 ?_
              refine lv_iload_n hx hb dCV_isLike_17 rfl (lv_at hl 0 rfl) ?_
              refine k_ild (v := sz 1) hx hb hK hP 8 0 rfl rfl (j := 1) (by decide) (by decide) (by decide) rfl dCV_isLike_18 ?_
              refine lv_icmp_eq (tgt := 24) hx hb dCV_isLike_19 (by decide) (fun c_5 => ?_) (fun c_5 => ?_)
              · refine lv_iconst (v := 0) hx hb dCV_isLike_24 (by decide) ?_
                refine lv_istore_n (lv' := [(3, .int 0), (2, .int 1), (0, .ref h0), (1, .ref g0)]) hx hb dCV_isLike_25 rfl hl (by decide) rfl (fun ls hl => ?_)
                have hl : lv_has ls 4 [(3, .int (nI 0)), (2, .int 1), (0, .ref h0), (1, .ref g0)] := hl
                have hb1 := (hns 1 (by decide)).2
                have lp : ∀ (n j1 : Nat), ns 1 < j1 + n → j1 ≤ ns 1 → ∀ (H : Heap) (locs : List Loc), va_P (dC, dI) vwCl [(h0, .inr (0, [.ref h1, .ref h2])), (h1, .inl (cI, 4, .inl sz)), (h2, .inl (cG, 4, .inr (.inr (.inr (.inr (f_rw r)))))), (r 0, .inl (cJ, 100, .inr (.inl (v 0)))), (r 1, .inl (cJ, 100, .inr (.inl (v 1)))), (r 2, .inl (cJ, 100, .inr (.inl (v 2)))), (r 3, .inl (cJ, 100, .inr (.inl (v 3)))), (g0, .inr (0, [.ref g1, .ref g2])), (g1, .inl (cI, 4, .inl sz)), (g2, .inl (cG, 4, .inr (.inr (.inr (.inr (f_rw rr)))))), (rr 0, .inl (cJ, 100, .inr (.inl (v 0)))), (rr 1, .inl (cJ, 100, .inr (.inl (v 1)))), (rr 2, .inl (cJ, 100, .inr (.inl (v 2)))), (rr 3, .inl (cJ, 100, .inr (.inl (v 3))))] H → va_D A [(h0, .inr (0, [.ref h1, .ref h2])), (h1, .inl (cI, 4, .inl sz)), (h2, .inl (cG, 4, .inr (.inr (.inr (.inr (f_rw r)))))), (r 0, .inl (cJ, 100, .inr (.inl (v 0)))), (r 1, .inl (cJ, 100, .inr (.inl (v 1)))), (r 2, .inl (cJ, 100, .inr (.inl (v 2)))), (r 3, .inl (cJ, 100, .inr (.inl (v 3)))), (g0, .inr (0, [.ref g1, .ref g2])), (g1, .inl (cI, 4, .inl sz)), (g2, .inl (cG, 4, .inr (.inr (.inr (.inr (f_rw rr)))))), (rr 0, .inl (cJ, 100, .inr (.inl (v 0)))), (rr 1, .inl (cJ, 100, .inr (.inl (v 1)))), (rr 2, .inl (cJ, 100, .inr (.inl (v 2)))), (rr 3, .inl (cJ, 100, .inr (.inl (v 3))))] → va_S A s.heap H locs → ∀ (ls : Array Slot), lv_has ls 4 [(3, .int (nI j1)), (2, .int 1), (0, .ref h0), (1, .ref g0)] → W p l e rm_CV_isLike s m ([.ref h0, .ref g0] : List Value).toArray below meth c H locs 0 0 (MQ below (k_Q (dC, dI) vwCl [(cI, .int), (cJ, .long), (cG, .array .long), (cZ, .boolean)] (some (.int 1)) [(h0, .inr (0, [.ref h1, .ref h2])), (h1, .inl (cI, 4, .inl sz)), (h2, .inl (cG, 4, .inr (.inr (.inr (.inr (f_rw r)))))), (r 0, .inl (cJ, 100, .inr (.inl (v 0)))), (r 1, .inl (cJ, 100, .inr (.inl (v 1)))), (r 2, .inl (cJ, 100, .inr (.inl (v 2)))), (r 3, .inl (cJ, 100, .inr (.inl (v 3)))), (g0, .inr (0, [.ref g1, .ref g2])), (g1, .inl (cI, 4, .inl sz)), (g2, .inl (cG, 4, .inr (.inr (.inr (.inr (f_rw rr)))))), (rr 0, .inl (cJ, 100, .inr (.inl (v 0)))), (rr 1, .inl (cJ, 100, .inr (.inl (v 1)))), (rr 2, .inl (cJ, 100, .inr (.inl (v 2)))), (rr 3, .inl (cJ, 100, .inr (.inl (v 3))))] A) ([.ref h0, .ref g0] : List Value).toArray s rm_CV_isLike.cells rm_CV_isLike.slots A) (F0 m 26 ls []) := by
                  intro n
                  induction n with
                  | zero => intro j1 h8 h9; exact absurd h8 (by omega)
                  | succ n ih =>
                    intro j1 hn hle H locs hP hD hS ls hl
                    refine lv_iload_n hx hb dCV_isLike_26 rfl (lv_at hl 0 rfl) ?_
                    refine lv_aload_n hx hb dCV_isLike_27 rfl (lv_at hl 2 rfl) ?_
                    refine va_get (D := (dC, dI)) (ci := 0) (v := .ref h1) (C := RCV) (T := TCV) (N := 2) hx hb hts inCV hown hK hP 0 rfl rfl 0 (by decide) (hts _ m_f_CV_9) (fun _ h9 => h9) rfl dCV_isLike_28 ?_
                    refine lv_iload_n hx hb dCV_isLike_31 rfl (lv_at hl 1 rfl) ?_
                    refine k_ild (v := sz 1) hx hb hK hP 1 0 rfl rfl (j := 1) (by decide) (by decide) (by decide) rfl dCV_isLike_32 ?_
                    refine k_topi (y := nI (ns 1)) ((hns 1 (by decide)).1) ?_
                    refine lv_icmp_ge (tgt := 64) hx hb dCV_isLike_33 (by decide) (fun c_6 => ?_) (fun c_6 => ?_)
                    · refine lv_iinc (v := 2) (lv' := [(2, .int 2), (3, .int (nI j1)), (0, .ref h0), (1, .ref g0)]) hx hb dCV_isLike_64 hl (k := 1) rfl (by decide) (by decide) rfl (fun ls hl => ?_)
                      refine lv_goto (tgt := 2) hx hb dCV_isLike_67 (by decide) ?_
                      refine lv_iload_n hx hb dCV_isLike_2 rfl (lv_at hl 0 rfl) ?_
                      refine lv_iconst (v := 4) hx hb dCV_isLike_3 (by decide) ?_
                      refine lv_icmp_ge (tgt := 70) hx hb dCV_isLike_4 (by decide) (fun c_7 => ?_) (fun c_7 => ?_)
                      · exact absurd c_7 (by decide)
                      · refine lv_aload_n hx hb dCV_isLike_7 rfl (lv_at hl 2 rfl) ?_
                        refine va_get (D := (dC, dI)) (ci := 0) (v := .ref h1) (C := RCV) (T := TCV) (N := 2) hx hb hts inCV hown hK hP 0 rfl rfl 0 (by decide) (hts _ m_f_CV_9) (fun _ h9 => h9) rfl dCV_isLike_8 ?_
                        refine lv_iload_n hx hb dCV_isLike_11 rfl (lv_at hl 0 rfl) ?_
                        refine k_ild (v := sz 2) hx hb hK hP 1 0 rfl rfl (j := 2) (by decide) (by decide) (by decide) rfl dCV_isLike_12 ?_
                        refine lv_aload_n hx hb dCV_isLike_13 rfl (lv_at hl 3 rfl) ?_
                        refine va_get (D := (dC, dI)) (ci := 0) (v := .ref g1) (C := RCV) (T := TCV) (N := 2) hx hb hts inCV hown hK hP 7 rfl rfl 0 (by decide) (hts _ m_f_CV_9) (fun _ h9 => h9) rfl dCV_isLike_14 ?_
                        refine lv_iload_n hx hb dCV_isLike_17 rfl (lv_at hl 0 rfl) ?_
                        refine k_ild (v := sz 2) hx hb hK hP 8 0 rfl rfl (j := 2) (by decide) (by decide) (by decide) rfl dCV_isLike_18 ?_
                        refine lv_icmp_eq (tgt := 24) hx hb dCV_isLike_19 (by decide) (fun c_8 => ?_) (fun c_8 => ?_)
                        · refine lv_iconst (v := 0) hx hb dCV_isLike_24 (by decide) ?_
                          refine lv_istore_n (lv' := [(3, .int 0), (2, .int 2), (0, .ref h0), (1, .ref g0)]) hx hb dCV_isLike_25 rfl hl (by decide) rfl (fun ls hl => ?_)
                          have hl : lv_has ls 4 [(3, .int (nI 0)), (2, .int 2), (0, .ref h0), (1, .ref g0)] := hl
                          have hb2 := (hns 2 (by decide)).2
                          have lp : ∀ (n j2 : Nat), ns 2 < j2 + n → j2 ≤ ns 2 → ∀ (H : Heap) (locs : List Loc), va_P (dC, dI) vwCl [(h0, .inr (0, [.ref h1, .ref h2])), (h1, .inl (cI, 4, .inl sz)), (h2, .inl (cG, 4, .inr (.inr (.inr (.inr (f_rw r)))))), (r 0, .inl (cJ, 100, .inr (.inl (v 0)))), (r 1, .inl (cJ, 100, .inr (.inl (v 1)))), (r 2, .inl (cJ, 100, .inr (.inl (v 2)))), (r 3, .inl (cJ, 100, .inr (.inl (v 3)))), (g0, .inr (0, [.ref g1, .ref g2])), (g1, .inl (cI, 4, .inl sz)), (g2, .inl (cG, 4, .inr (.inr (.inr (.inr (f_rw rr)))))), (rr 0, .inl (cJ, 100, .inr (.inl (v 0)))), (rr 1, .inl (cJ, 100, .inr (.inl (v 1)))), (rr 2, .inl (cJ, 100, .inr (.inl (v 2)))), (rr 3, .inl (cJ, 100, .inr (.inl (v 3))))] H → va_D A [(h0, .inr (0, [.ref h1, .ref h2])), (h1, .inl (cI, 4, .inl sz)), (h2, .inl (cG, 4, .inr (.inr (.inr (.inr (f_rw r)))))), (r 0, .inl (cJ, 100, .inr (.inl (v 0)))), (r 1, .inl (cJ, 100, .inr (.inl (v 1)))), (r 2, .inl (cJ, 100, .inr (.inl (v 2)))), (r 3, .inl (cJ, 100, .inr (.inl (v 3)))), (g0, .inr (0, [.ref g1, .ref g2])), (g1, .inl (cI, 4, .inl sz)), (g2, .inl (cG, 4, .inr (.inr (.inr (.inr (f_rw rr)))))), (rr 0, .inl (cJ, 100, .inr (.inl (v 0)))), (rr 1, .inl (cJ, 100, .inr (.inl (v 1)))), (rr 2, .inl (cJ, 100, .inr (.inl (v 2)))), (rr 3, .inl (cJ, 100, .inr (.inl (v 3))))] → va_S A s.heap H locs → ∀ (ls : Array Slot), lv_has ls 4 [(3, .int (nI j2)), (2, .int 2), (0, .ref h0), (1, .ref g0)] → W p l e rm_CV_isLike s m ([.ref h0, .ref g0] : List Value).toArray below meth c H locs 0 0 (MQ below (k_Q (dC, dI) vwCl [(cI, .int), (cJ, .long), (cG, .array .long), (cZ, .boolean)] (some (.int 1)) [(h0, .inr (0, [.ref h1, .ref h2])), (h1, .inl (cI, 4, .inl sz)), (h2, .inl (cG, 4, .inr (.inr (.inr (.inr (f_rw r)))))), (r 0, .inl (cJ, 100, .inr (.inl (v 0)))), (r 1, .inl (cJ, 100, .inr (.inl (v 1)))), (r 2, .inl (cJ, 100, .inr (.inl (v 2)))), (r 3, .inl (cJ, 100, .inr (.inl (v 3)))), (g0, .inr (0, [.ref g1, .ref g2])), (g1, .inl (cI, 4, .inl sz)), (g2, .inl (cG, 4, .inr (.inr (.inr (.inr (f_rw rr)))))), (rr 0, .inl (cJ, 100, .inr (.inl (v 0)))), (rr 1, .inl (cJ, 100, .inr (.inl (v 1)))), (rr 2, .inl (cJ, 100, .inr (.inl (v 2)))), (rr 3, .inl (cJ, 100, .inr (.inl (v 3))))] A) ([.ref h0, .ref g0] : List Value).toArray s rm_CV_isLike.cells rm_CV_isLike.slots A) (F0 m 26 ls []) := by
                            intro n
                            induction n with
                            | zero => intro j2 h8 h9; exact absurd h8 (by omega)
                            | succ n ih =>
                              intro j2 hn hle H locs hP hD hS ls hl
                              refine lv_iload_n hx hb dCV_isLike_26 rfl (lv_at hl 0 rfl) ?_
                              refine lv_aload_n hx hb dCV_isLike_27 rfl (lv_at hl 2 rfl) ?_
                              refine va_get (D := (dC, dI)) (ci := 0) (v := .ref h1) (C := RCV) (T := TCV) (N := 2) hx hb hts inCV hown hK hP 0 rfl rfl 0 (by decide) (hts _ m_f_CV_9) (fun _ h9 => h9) rfl dCV_isLike_28 ?_
                              refine lv_iload_n hx hb dCV_isLike_31 rfl (lv_at hl 1 rfl) ?_
                              refine k_ild (v := sz 2) hx hb hK hP 1 0 rfl rfl (j := 2) (by decide) (by decide) (by decide) rfl dCV_isLike_32 ?_
                              refine k_topi (y := nI (ns 2)) ((hns 2 (by decide)).1) ?_
                              refine lv_icmp_ge (tgt := 64) hx hb dCV_isLike_33 (by decide) (fun c_9 => ?_) (fun c_9 => ?_)
                              · refine lv_iinc (v := 3) (lv' := [(2, .int 3), (3, .int (nI j2)), (0, .ref h0), (1, .ref g0)]) hx hb dCV_isLike_64 hl (k := 1) rfl (by decide) (by decide) rfl (fun ls hl => ?_)
                                refine lv_goto (tgt := 2) hx hb dCV_isLike_67 (by decide) ?_
                                refine lv_iload_n hx hb dCV_isLike_2 rfl (lv_at hl 0 rfl) ?_
                                refine lv_iconst (v := 4) hx hb dCV_isLike_3 (by decide) ?_
                                refine lv_icmp_ge (tgt := 70) hx hb dCV_isLike_4 (by decide) (fun c_10 => ?_) (fun c_10 => ?_)
                                · exact absurd c_10 (by decide)
                                · refine lv_aload_n hx hb dCV_isLike_7 rfl (lv_at hl 2 rfl) ?_
                                  refine va_get (D := (dC, dI)) (ci := 0) (v := .ref h1) (C := RCV) (T := TCV) (N := 2) hx hb hts inCV hown hK hP 0 rfl rfl 0 (by decide) (hts _ m_f_CV_9) (fun _ h9 => h9) rfl dCV_isLike_8 ?_
                                  refine lv_iload_n hx hb dCV_isLike_11 rfl (lv_at hl 0 rfl) ?_
                                  refine k_ild (v := sz 3) hx hb hK hP 1 0 rfl rfl (j := 3) (by decide) (by decide) (by decide) rfl dCV_isLike_12 ?_
                                  refine lv_aload_n hx hb dCV_isLike_13 rfl (lv_at hl 3 rfl) ?_
                                  refine va_get (D := (dC, dI)) (ci := 0) (v := .ref g1) (C := RCV) (T := TCV) (N := 2) hx hb hts inCV hown hK hP 7 rfl rfl 0 (by decide) (hts _ m_f_CV_9) (fun _ h9 => h9) rfl dCV_isLike_14 ?_
                                  refine lv_iload_n hx hb dCV_isLike_17 rfl (lv_at hl 0 rfl) ?_
                                  refine k_ild (v := sz 3) hx hb hK hP 8 0 rfl rfl (j := 3) (by decide) (by decide) (by decide) rfl dCV_isLike_18 ?_
                                  refine lv_icmp_eq (tgt := 24) hx hb dCV_isLike_19 (by decide) (fun c_11 => ?_) (fun c_11 => ?_)
                                  · refine lv_iconst (v := 0) hx hb dCV_isLike_24 (by decide) ?_
                                    refine lv_istore_n (lv' := [(3, .int 0), (2, .int 3), (0, .ref h0), (1, .ref g0)]) hx hb dCV_isLike_25 rfl hl (by decide) rfl (fun ls hl => ?_)
                                    have hl : lv_has ls 4 [(3, .int (nI 0)), (2, .int 3), (0, .ref h0), (1, .ref g0)] := hl
                                    have hb3 := (hns 3 (by decide)).2
                                    have lp : ∀ (n j3 : Nat), ns 3 < j3 + n → j3 ≤ ns 3 → ∀ (H : Heap) (locs : List Loc), va_P (dC, dI) vwCl [(h0, .inr (0, [.ref h1, .ref h2])), (h1, .inl (cI, 4, .inl sz)), (h2, .inl (cG, 4, .inr (.inr (.inr (.inr (f_rw r)))))), (r 0, .inl (cJ, 100, .inr (.inl (v 0)))), (r 1, .inl (cJ, 100, .inr (.inl (v 1)))), (r 2, .inl (cJ, 100, .inr (.inl (v 2)))), (r 3, .inl (cJ, 100, .inr (.inl (v 3)))), (g0, .inr (0, [.ref g1, .ref g2])), (g1, .inl (cI, 4, .inl sz)), (g2, .inl (cG, 4, .inr (.inr (.inr (.inr (f_rw rr)))))), (rr 0, .inl (cJ, 100, .inr (.inl (v 0)))), (rr 1, .inl (cJ, 100, .inr (.inl (v 1)))), (rr 2, .inl (cJ, 100, .inr (.inl (v 2)))), (rr 3, .inl (cJ, 100, .inr (.inl (v 3))))] H → va_D A [(h0, .inr (0, [.ref h1, .ref h2])), (h1, .inl (cI, 4, .inl sz)), (h2, .inl (cG, 4, .inr (.inr (.inr (.inr (f_rw r)))))), (r 0, .inl (cJ, 100, .inr (.inl (v 0)))), (r 1, .inl (cJ, 100, .inr (.inl (v 1)))), (r 2, .inl (cJ, 100, .inr (.inl (v 2)))), (r 3, .inl (cJ, 100, .inr (.inl (v 3)))), (g0, .inr (0, [.ref g1, .ref g2])), (g1, .inl (cI, 4, .inl sz)), (g2, .inl (cG, 4, .inr (.inr (.inr (.inr (f_rw rr)))))), (rr 0, .inl (cJ, 100, .inr (.inl (v 0)))), (rr 1, .inl (cJ, 100, .inr (.inl (v 1)))), (rr 2, .inl (cJ, 100, .inr (.inl (v 2)))), (rr 3, .inl (cJ, 100, .inr (.inl (v 3))))] → va_S A s.heap H locs → ∀ (ls : Array Slot), lv_has ls 4 [(3, .int (nI j3)), (2, .int 3), (0, .ref h0), (1, .ref g0)] → W p l e rm_CV_isLike s m ([.ref h0, .ref g0] : List Value).toArray below meth c H locs 0 0 (MQ below (k_Q (dC, dI) vwCl [(cI, .int), (cJ, .long), (cG, .array .long), (cZ, .boolean)] (some (.int 1)) [(h0, .inr (0, [.ref h1, .ref h2])), (h1, .inl (cI, 4, .inl sz)), (h2, .inl (cG, 4, .inr (.inr (.inr (.inr (f_rw r)))))), (r 0, .inl (cJ, 100, .inr (.inl (v 0)))), (r 1, .inl (cJ, 100, .inr (.inl (v 1)))), (r 2, .inl (cJ, 100, .inr (.inl (v 2)))), (r 3, .inl (cJ, 100, .inr (.inl (v 3)))), (g0, .inr (0, [.ref g1, .ref g2])), (g1, .inl (cI, 4, .inl sz)), (g2, .inl (cG, 4, .inr (.inr (.inr (.inr (f_rw rr)))))), (rr 0, .inl (cJ, 100, .inr (.inl (v 0)))), (rr 1, .inl (cJ, 100, .inr (.inl (v 1)))), (rr 2, .inl (cJ, 100, .inr (.inl (v 2)))), (rr 3, .inl (cJ, 100, .inr (.inl (v 3))))] A) ([.ref h0, .ref g0] : List Value).toArray s rm_CV_isLike.cells rm_CV_isLike.slots A) (F0 m 26 ls []) := by
                                      intro n
                                      induction n with
                                      | zero => intro j3 h8 h9; exact absurd h8 (by omega)
                                      | succ n ih =>
                                        intro j3 hn hle H locs hP hD hS ls hl
                                        refine lv_iload_n hx hb dCV_isLike_26 rfl (lv_at hl 0 rfl) ?_
                                        refine lv_aload_n hx hb dCV_isLike_27 rfl (lv_at hl 2 rfl) ?_
                                        refine va_get (D := (dC, dI)) (ci := 0) (v := .ref h1) (C := RCV) (T := TCV) (N := 2) hx hb hts inCV hown hK hP 0 rfl rfl 0 (by decide) (hts _ m_f_CV_9) (fun _ h9 => h9) rfl dCV_isLike_28 ?_
                                        refine lv_iload_n hx hb dCV_isLike_31 rfl (lv_at hl 1 rfl) ?_
                                        refine k_ild (v := sz 3) hx hb hK hP 1 0 rfl rfl (j := 3) (by decide) (by decide) (by decide) rfl dCV_isLike_32 ?_
                                        refine k_topi (y := nI (ns 3)) ((hns 3 (by decide)).1) ?_
                                        refine lv_icmp_ge (tgt := 64) hx hb dCV_isLike_33 (by decide) (fun c_12 => ?_) (fun c_12 => ?_)
                                        · refine lv_iinc (v := 4) (lv' := [(2, .int 4), (3, .int (nI j3)), (0, .ref h0), (1, .ref g0)]) hx hb dCV_isLike_64 hl (k := 1) rfl (by decide) (by decide) rfl (fun ls hl => ?_)
                                          refine lv_goto (tgt := 2) hx hb dCV_isLike_67 (by decide) ?_
                                          refine lv_iload_n hx hb dCV_isLike_2 rfl (lv_at hl 0 rfl) ?_
                                          refine lv_iconst (v := 4) hx hb dCV_isLike_3 (by decide) ?_
                                          refine lv_icmp_ge (tgt := 70) hx hb dCV_isLike_4 (by decide) (fun c_13 => ?_) (fun c_13 => ?_)
                                          · refine lv_iconst (v := 1) hx hb dCV_isLike_70 (by decide) ?_
                                            exact k_zret hx hb hr hlocks rfl hP hK hD hS rfl dCV_isLike_71 ⟨Nat.le_of_ble_eq_true rfl, Nat.le_of_ble_eq_true rfl⟩
                                          · exact absurd (by decide) c_13
                                        · have hlt3 : j3 < ns 3 := by rcases Nat.lt_or_ge j3 (ns 3) with q9 | q9; exact q9; exact absurd (nI_le q9 (by omega)) c_12
                                          refine lv_aload_n hx hb dCV_isLike_36 rfl (lv_at hl 2 rfl) ?_
                                          refine va_get (D := (dC, dI)) (ci := 0) (v := .ref h2) (C := RCV) (T := TCV) (N := 2) hx hb hts inCV hown hK hP 0 rfl rfl 1 (by decide) (hts _ m_f_CV_17) (fun _ h9 => h9) rfl dCV_isLike_37 ?_
                                          refine lv_iload_n hx hb dCV_isLike_40 rfl (lv_at hl 1 rfl) ?_
                                          refine k_ald (x := r 3) hx hb hK hP 2 2 rfl rfl (j := 3) (by decide) (by decide) (by decide) rfl dCV_isLike_41 ?_
                                          refine lv_iload_n hx hb dCV_isLike_42 rfl (lv_at hl 0 rfl) ?_
                                          refine k_lld (v := (v 3) j3) hx hb hK hP 6 1 rfl rfl (j := j3) rfl (by omega) (by decide) rfl dCV_isLike_43 ?_
                                          refine lv_aload_n hx hb dCV_isLike_44 rfl (lv_at hl 3 rfl) ?_
                                          refine va_get (D := (dC, dI)) (ci := 0) (v := .ref g2) (C := RCV) (T := TCV) (N := 2) hx hb hts inCV hown hK hP 7 rfl rfl 1 (by decide) (hts _ m_f_CV_17) (fun _ h9 => h9) rfl dCV_isLike_45 ?_
                                          refine lv_iload_n hx hb dCV_isLike_48 rfl (lv_at hl 1 rfl) ?_
                                          refine k_ald (x := rr 3) hx hb hK hP 9 2 rfl rfl (j := 3) (by decide) (by decide) (by decide) rfl dCV_isLike_49 ?_
                                          refine lv_iload_n hx hb dCV_isLike_50 rfl (lv_at hl 0 rfl) ?_
                                          refine k_lld (v := (v 3) j3) hx hb hK hP 13 1 rfl rfl (j := j3) rfl (by omega) (by decide) rfl dCV_isLike_51 ?_
                                          refine W.lcmp hx hb dCV_isLike_52 ?_
                                          refine lv_if_eq (tgt := 58) hx hb dCV_isLike_53 (by decide) (fun c_14 => ?_) (fun c_14 => ?_)
                                          · refine lv_iinc (v := nI (j3 + 1)) (lv' := [(3, .int (nI (j3 + 1))), (2, .int 3), (0, .ref h0), (1, .ref g0)]) hx hb dCV_isLike_58 hl (k := 0) rfl (nI_1 _) (by decide) rfl (fun ls hl => ?_)
                                            refine lv_goto (tgt := 26) hx hb dCV_isLike_61 (by decide) ?_
                                            exact ih (j3 + 1) (by omega) (by omega) _ _ hP hD hS ls (lv_sub hl [0, 1, 2, 3] rfl)
                                          · exact absurd (n_eq0.mpr rfl) c_14
                                    exact lp (ns 3 + 1) 0 (by omega) (by omega) _ _ hP hD hS ls hl
                                  · exact absurd rfl c_11
                              · have hlt2 : j2 < ns 2 := by rcases Nat.lt_or_ge j2 (ns 2) with q9 | q9; exact q9; exact absurd (nI_le q9 (by omega)) c_9
                                refine lv_aload_n hx hb dCV_isLike_36 rfl (lv_at hl 2 rfl) ?_
                                refine va_get (D := (dC, dI)) (ci := 0) (v := .ref h2) (C := RCV) (T := TCV) (N := 2) hx hb hts inCV hown hK hP 0 rfl rfl 1 (by decide) (hts _ m_f_CV_17) (fun _ h9 => h9) rfl dCV_isLike_37 ?_
                                refine lv_iload_n hx hb dCV_isLike_40 rfl (lv_at hl 1 rfl) ?_
                                refine k_ald (x := r 2) hx hb hK hP 2 2 rfl rfl (j := 2) (by decide) (by decide) (by decide) rfl dCV_isLike_41 ?_
                                refine lv_iload_n hx hb dCV_isLike_42 rfl (lv_at hl 0 rfl) ?_
                                refine k_lld (v := (v 2) j2) hx hb hK hP 5 1 rfl rfl (j := j2) rfl (by omega) (by decide) rfl dCV_isLike_43 ?_
                                refine lv_aload_n hx hb dCV_isLike_44 rfl (lv_at hl 3 rfl) ?_
                                refine va_get (D := (dC, dI)) (ci := 0) (v := .ref g2) (C := RCV) (T := TCV) (N := 2) hx hb hts inCV hown hK hP 7 rfl rfl 1 (by decide) (hts _ m_f_CV_17) (fun _ h9 => h9) rfl dCV_isLike_45 ?_
                                refine lv_iload_n hx hb dCV_isLike_48 rfl (lv_at hl 1 rfl) ?_
                                refine k_ald (x := rr 2) hx hb hK hP 9 2 rfl rfl (j := 2) (by decide) (by decide) (by decide) rfl dCV_isLike_49 ?_
                                refine lv_iload_n hx hb dCV_isLike_50 rfl (lv_at hl 0 rfl) ?_
                                refine k_lld (v := (v 2) j2) hx hb hK hP 12 1 rfl rfl (j := j2) rfl (by omega) (by decide) rfl dCV_isLike_51 ?_
                                refine W.lcmp hx hb dCV_isLike_52 ?_
                                refine lv_if_eq (tgt := 58) hx hb dCV_isLike_53 (by decide) (fun c_15 => ?_) (fun c_15 => ?_)
                                · refine lv_iinc (v := nI (j2 + 1)) (lv' := [(3, .int (nI (j2 + 1))), (2, .int 2), (0, .ref h0), (1, .ref g0)]) hx hb dCV_isLike_58 hl (k := 0) rfl (nI_1 _) (by decide) rfl (fun ls hl => ?_)
                                  refine lv_goto (tgt := 26) hx hb dCV_isLike_61 (by decide) ?_
                                  exact ih (j2 + 1) (by omega) (by omega) _ _ hP hD hS ls (lv_sub hl [0, 1, 2, 3] rfl)
                                · exact absurd (n_eq0.mpr rfl) c_15
                          exact lp (ns 2 + 1) 0 (by omega) (by omega) _ _ hP hD hS ls hl
                        · exact absurd rfl c_8
                    · have hlt1 : j1 < ns 1 := by rcases Nat.lt_or_ge j1 (ns 1) with q9 | q9; exact q9; exact absurd (nI_le q9 (by omega)) c_6
                      refine lv_aload_n hx hb dCV_isLike_36 rfl (lv_at hl 2 rfl) ?_
                      refine va_get (D := (dC, dI)) (ci := 0) (v := .ref h2) (C := RCV) (T := TCV) (N := 2) hx hb hts inCV hown hK hP 0 rfl rfl 1 (by decide) (hts _ m_f_CV_17) (fun _ h9 => h9) rfl dCV_isLike_37 ?_
                      refine lv_iload_n hx hb dCV_isLike_40 rfl (lv_at hl 1 rfl) ?_
                      refine k_ald (x := r 1) hx hb hK hP 2 2 rfl rfl (j := 1) (by decide) (by decide) (by decide) rfl dCV_isLike_41 ?_
                      refine lv_iload_n hx hb dCV_isLike_42 rfl (lv_at hl 0 rfl) ?_
                      refine k_lld (v := (v 1) j1) hx hb hK hP 4 1 rfl rfl (j := j1) rfl (by omega) (by decide) rfl dCV_isLike_43 ?_
                      refine lv_aload_n hx hb dCV_isLike_44 rfl (lv_at hl 3 rfl) ?_
                      refine va_get (D := (dC, dI)) (ci := 0) (v := .ref g2) (C := RCV) (T := TCV) (N := 2) hx hb hts inCV hown hK hP 7 rfl rfl 1 (by decide) (hts _ m_f_CV_17) (fun _ h9 => h9) rfl dCV_isLike_45 ?_
                      refine lv_iload_n hx hb dCV_isLike_48 rfl (lv_at hl 1 rfl) ?_
                      refine k_ald (x := rr 1) hx hb hK hP 9 2 rfl rfl (j := 1) (by decide) (by decide) (by decide) rfl dCV_isLike_49 ?_
                      refine lv_iload_n hx hb dCV_isLike_50 rfl (lv_at hl 0 rfl) ?_
                      refine k_lld (v := (v 1) j1) hx hb hK hP 11 1 rfl rfl (j := j1) rfl (by omega) (by decide) rfl dCV_isLike_51 ?_
                      refine W.lcmp hx hb dCV_isLike_52 ?_
                      refine lv_if_eq (tgt := 58) hx hb dCV_isLike_53 (by decide) (fun c_16 => ?_) (fun c_16 => ?_)
                      · refine lv_iinc (v := nI (j1 + 1)) (lv' := [(3, .int (nI (j1 + 1))), (2, .int 1), (0, .ref h0), (1, .ref g0)]) hx hb dCV_isLike_58 hl (k := 0) rfl (nI_1 _) (by decide) rfl (fun ls hl => ?_)
                        refine lv_goto (tgt := 26) hx hb dCV_isLike_61 (by decide) ?_
                        exact ih (j1 + 1) (by omega) (by omega) _ _ hP hD hS ls (lv_sub hl [0, 1, 2, 3] rfl)
                      · exact absurd (n_eq0.mpr rfl) c_16
                exact lp (ns 1 + 1) 0 (by omega) (by omega) _ _ hP hD hS ls hl
              · exact absurd rfl c_5
          · have hlt0 : j0 < ns 0 := by rcases Nat.lt_or_ge j0 (ns 0) with q9 | q9; exact q9; exact absurd (nI_le q9 (by omega)) c_3
            refine lv_aload_n hx hb dCV_isLike_36 rfl (lv_at hl 2 rfl) ?_
            refine va_get (D := (dC, dI)) (ci := 0) (v := .ref h2) (C := RCV) (T := TCV) (N := 2) hx hb hts inCV hown hK hP 0 rfl rfl 1 (by decide) (hts _ m_f_CV_17) (fun _ h9 => h9) rfl dCV_isLike_37 ?_
            refine lv_iload_n hx hb dCV_isLike_40 rfl (lv_at hl 1 rfl) ?_
            refine k_ald (x := r 0) hx hb hK hP 2 2 rfl rfl (j := 0) (by decide) (by decide) (by decide) rfl dCV_isLike_41 ?_
            refine lv_iload_n hx hb dCV_isLike_42 rfl (lv_at hl 0 rfl) ?_
            refine k_lld (v := (v 0) j0) hx hb hK hP 3 1 rfl rfl (j := j0) rfl (by omega) (by decide) rfl dCV_isLike_43 ?_
            refine lv_aload_n hx hb dCV_isLike_44 rfl (lv_at hl 3 rfl) ?_
            refine va_get (D := (dC, dI)) (ci := 0) (v := .ref g2) (C := RCV) (T := TCV) (N := 2) hx hb hts inCV hown hK hP 7 rfl rfl 1 (by decide) (hts _ m_f_CV_17) (fun _ h9 => h9) rfl dCV_isLike_45 ?_
            refine lv_iload_n hx hb dCV_isLike_48 rfl (lv_at hl 1 rfl) ?_
            refine k_ald (x := rr 0) hx hb hK hP 9 2 rfl rfl (j := 0) (by decide) (by decide) (by decide) rfl dCV_isLike_49 ?_
            refine lv_iload_n hx hb dCV_isLike_50 rfl (lv_at hl 0 rfl) ?_
            refine k_lld (v := (v 0) j0) hx hb hK hP 10 1 rfl rfl (j := j0) rfl (by omega) (by decide) rfl dCV_isLike_51 ?_
            refine W.lcmp hx hb dCV_isLike_52 ?_
            refine lv_if_eq (tgt := 58) hx hb dCV_isLike_53 (by decide) (fun c_17 => ?_) (fun c_17 => ?_)
            · refine lv_iinc (v := nI (j0 + 1)) (lv' := [(3, .int (nI (j0 + 1))), (2, .int 0), (0, .ref h0), (1, .ref g0)]) hx hb dCV_isLike_58 hl (k := 0) rfl (nI_1 _) (by decide) rfl (fun ls hl => ?_)
              refine lv_goto (tgt := 26) hx hb dCV_isLike_61 (by decide) ?_
              exact ih (j0 + 1) (by omega) (by omega) _ _ hP hD hS ls (lv_sub hl [0, 1, 2, 3] rfl)
            · exact absurd (n_eq0.mpr rfl) c_17
      exact lp (ns 0 + 1) 0 (by omega) (by omega) _ _ hP hD hS ls hl
    · exact absurd rfl c_2
abbrev rm_DK_isLike : Room := { frames := 2, cells := 0, slots := 0, locals := 43 }
set_option maxHeartbeats 4000000 in
set_option maxRecDepth 100000 in
theorem k_DK_isLike (l : Launch) (dC : Nat → ClassId) (dI : Nat → Nat → Nat) (cI cJ cG cZ : ClassId) (a0 : Nat) (a1 : Nat) (a2 : Nat) (a3 : Nat) (a4 : Nat) (a5 : Nat) (n1 : Nat) (n2 : Nat) (p1 : Nat) (p2 : Nat) (p3 : Nat) (t1 : Nat) (c1 : Nat) (c2 : Nat) (j1 : Nat) (r : Nat → Nat) (sm : Nat → Int64) (fl : Nat → Int32) (tf : Nat → Int64) (rg : Nat → Int64) (z : Nat) (q : Nat) (b0 : Nat) (b1 : Nat) (b2 : Nat) (b3 : Nat) (b4 : Nat) (b5 : Nat) (xn1 : Nat) (xn2 : Nat) (xp1 : Nat) (xp2 : Nat) (xp3 : Nat) (xt1 : Nat) (xc1 : Nat) (xc2 : Nat) (xj1 : Nat) (xr : Nat → Nat) (xsm : Nat → Int64) (xfl : Nat → Int32) (xtf : Nat → Int64) (xrg : Nat → Int64) (xz : Nat) (xq : Nat) (md : Nat → Int32) (kn : Nat → Int64) (an : Nat → Int64) (sz : Nat → Int32) (vs : Nat → Nat → Int64) (ns : Nat → Nat) (hns : ∀ k : Nat, k < 4 → sz k = nI (ns k) ∧ ns k ≤ 100) (hz : z ≤ 64) (hq : q < 64) (hz2 : xz ≤ 64) (hq2 : xq < 64) : k_M l yDK_isLike wsDK_isLike rm_DK_isLike (dC, dI) vwCl [(cI, .int), (cJ, .long), (cG, .array .long), (cZ, .boolean)] [.ref a0, .ref b0] [(a0, .inr (1, [.ref a1, .ref a2, .ref a3, .ref a4, .ref a5])), (a1, .inr (3, [.ref n1, .ref n2])), (n1, .inl (cI, 8, .inl md)), (n2, .inl (cJ, 8, .inr (.inl kn))), (a2, .inr (4, [.ref p1, .ref p2, .ref p3])), (p1, .inl (cJ, 12, .inr (.inl an))), (p2, .inl (cJ, 12, .inr (.inl sm))), (p3, .inl (cI, 12, .inl fl)), (a3, .inr (5, [.ref t1])), (t1, .inl (cJ, 8, .inr (.inl tf))), (a4, .inr (0, [.ref c1, .ref c2])), (c1, .inl (cI, 4, .inl sz)), (c2, .inl (cG, 4, .inr (.inr (.inr (.inr (f_rw r)))))), (r 0, .inl (cJ, 100, .inr (.inl (vs 0)))), (r 1, .inl (cJ, 100, .inr (.inl (vs 1)))), (r 2, .inl (cJ, 100, .inr (.inl (vs 2)))), (r 3, .inl (cJ, 100, .inr (.inl (vs 3)))), (a5, .inr (2, [.ref j1, .int (nI z), .int (nI q)])), (j1, .inl (cJ, 64, .inr (.inl rg))), (b0, .inr (1, [.ref b1, .ref b2, .ref b3, .ref b4, .ref b5])), (b1, .inr (3, [.ref xn1, .ref xn2])), (xn1, .inl (cI, 8, .inl md)), (xn2, .inl (cJ, 8, .inr (.inl kn))), (b2, .inr (4, [.ref xp1, .ref xp2, .ref xp3])), (xp1, .inl (cJ, 12, .inr (.inl an))), (xp2, .inl (cJ, 12, .inr (.inl xsm))), (xp3, .inl (cI, 12, .inl xfl)), (b3, .inr (5, [.ref xt1])), (xt1, .inl (cJ, 8, .inr (.inl xtf))), (b4, .inr (0, [.ref xc1, .ref xc2])), (xc1, .inl (cI, 4, .inl sz)), (xc2, .inl (cG, 4, .inr (.inr (.inr (.inr (f_rw xr)))))), (xr 0, .inl (cJ, 100, .inr (.inl (vs 0)))), (xr 1, .inl (cJ, 100, .inr (.inl (vs 1)))), (xr 2, .inl (cJ, 100, .inr (.inl (vs 2)))), (xr 3, .inl (cJ, 100, .inr (.inl (vs 3)))), (b5, .inr (2, [.ref xj1, .int (nI xz), .int (nI xq)])), (xj1, .inl (cJ, 64, .inr (.inl xrg)))] (some (.int (if (∀ j : Nat, j < 12 → sm j = xsm j) ∧ (z = xz ∧ ∀ j : Nat, j < z → rg (f_ix q z j) = xrg (f_ix xq xz j)) ∧ (∀ j : Nat, j < 8 → tf j = xtf j) then 1 else 0))) [(a0, .inr (1, [.ref a1, .ref a2, .ref a3, .ref a4, .ref a5])), (a1, .inr (3, [.ref n1, .ref n2])), (n1, .inl (cI, 8, .inl md)), (n2, .inl (cJ, 8, .inr (.inl kn))), (a2, .inr (4, [.ref p1, .ref p2, .ref p3])), (p1, .inl (cJ, 12, .inr (.inl an))), (p2, .inl (cJ, 12, .inr (.inl sm))), (p3, .inl (cI, 12, .inl fl)), (a3, .inr (5, [.ref t1])), (t1, .inl (cJ, 8, .inr (.inl tf))), (a4, .inr (0, [.ref c1, .ref c2])), (c1, .inl (cI, 4, .inl sz)), (c2, .inl (cG, 4, .inr (.inr (.inr (.inr (f_rw r)))))), (r 0, .inl (cJ, 100, .inr (.inl (vs 0)))), (r 1, .inl (cJ, 100, .inr (.inl (vs 1)))), (r 2, .inl (cJ, 100, .inr (.inl (vs 2)))), (r 3, .inl (cJ, 100, .inr (.inl (vs 3)))), (a5, .inr (2, [.ref j1, .int (nI z), .int (nI q)])), (j1, .inl (cJ, 64, .inr (.inl rg))), (b0, .inr (1, [.ref b1, .ref b2, .ref b3, .ref b4, .ref b5])), (b1, .inr (3, [.ref xn1, .ref xn2])), (xn1, .inl (cI, 8, .inl md)), (xn2, .inl (cJ, 8, .inr (.inl kn))), (b2, .inr (4, [.ref xp1, .ref xp2, .ref xp3])), (xp1, .inl (cJ, 12, .inr (.inl an))), (xp2, .inl (cJ, 12, .inr (.inl xsm))), (xp3, .inl (cI, 12, .inl xfl)), (b3, .inr (5, [.ref xt1])), (xt1, .inl (cJ, 8, .inr (.inl xtf))), (b4, .inr (0, [.ref xc1, .ref xc2])), (xc1, .inl (cI, 4, .inl sz)), (xc2, .inl (cG, 4, .inr (.inr (.inr (.inr (f_rw xr)))))), (xr 0, .inl (cJ, 100, .inr (.inl (vs 0)))), (xr 1, .inl (cJ, 100, .inr (.inl (vs 1)))), (xr 2, .inl (cJ, 100, .inr (.inl (vs 2)))), (xr 3, .inl (cJ, 100, .inr (.inl (vs 3)))), (b5, .inr (2, [.ref xj1, .int (nI xz), .int (nI xq)])), (xj1, .inl (cJ, 64, .inr (.inl xrg)))] := by
  refine k_of (cc := cDK_isLike) (maxL := 2) (ret := (some .boolean)) (by decide) rfl (Nat.le_of_ble_eq_true rfl) ?_
  intro p e s m below meth c A ls hx hb hr hlocks hml hown hts hA hP hD hK hF hl hS
  have hown : s.vm.findClass RDK = some m.cls := hown
  have hl : lv_has ls 2 [(0, .ref a0), (1, .ref b0)] := hl
  refine lv_aload_n hx hb dDK_isLike_0 rfl (lv_at hl 0 rfl) ?_
  refine va_get (D := (dC, dI)) (ci := 1) (v := .ref a1) (C := RDK) (T := TDK) (N := 5) hx hb hts inDK hown hK hP 0 rfl rfl 0 (by decide) (hts _ m_f_DK_12) (fun _ h9 => h9) rfl dDK_isLike_1 ?_
  refine lv_aload_n hx hb dDK_isLike_4 rfl (lv_at hl 1 rfl) ?_
  refine va_get (D := (dC, dI)) (ci := 1) (v := .ref b1) (C := RDK) (T := TDK) (N := 5) hx hb hts inDK hown hK hP 19 rfl rfl 0 (by decide) (hts _ m_f_DK_12) (fun _ h9 => h9) rfl dDK_isLike_5 ?_
  refine k_V (wr := [(a0, .inr (1, [.ref a1, .ref a2, .ref a3, .ref a4, .ref a5])), (a2, .inr (4, [.ref p1, .ref p2, .ref p3])), (p1, .inl (cJ, 12, .inr (.inl an))), (p2, .inl (cJ, 12, .inr (.inl sm))), (p3, .inl (cI, 12, .inl fl)), (a3, .inr (5, [.ref t1])), (t1, .inl (cJ, 8, .inr (.inl tf))), (a4, .inr (0, [.ref c1, .ref c2])), (c1, .inl (cI, 4, .inl sz)), (c2, .inl (cG, 4, .inr (.inr (.inr (.inr (f_rw r)))))), (r 0, .inl (cJ, 100, .inr (.inl (vs 0)))), (r 1, .inl (cJ, 100, .inr (.inl (vs 1)))), (r 2, .inl (cJ, 100, .inr (.inl (vs 2)))), (r 3, .inl (cJ, 100, .inr (.inl (vs 3)))), (a5, .inr (2, [.ref j1, .int (nI z), .int (nI q)])), (j1, .inl (cJ, 64, .inr (.inl rg))), (b0, .inr (1, [.ref b1, .ref b2, .ref b3, .ref b4, .ref b5])), (b2, .inr (4, [.ref xp1, .ref xp2, .ref xp3])), (xp1, .inl (cJ, 12, .inr (.inl an))), (xp2, .inl (cJ, 12, .inr (.inl xsm))), (xp3, .inl (cI, 12, .inl xfl)), (b3, .inr (5, [.ref xt1])), (xt1, .inl (cJ, 8, .inr (.inl xtf))), (b4, .inr (0, [.ref xc1, .ref xc2])), (xc1, .inl (cI, 4, .inl sz)), (xc2, .inl (cG, 4, .inr (.inr (.inr (.inr (f_rw xr)))))), (xr 0, .inl (cJ, 100, .inr (.inl (vs 0)))), (xr 1, .inl (cJ, 100, .inr (.inl (vs 1)))), (xr 2, .inl (cJ, 100, .inr (.inl (vs 2)))), (xr 3, .inl (cJ, 100, .inr (.inl (vs 3)))), (b5, .inr (2, [.ref xj1, .int (nI xz), .int (nI xq)])), (xj1, .inl (cJ, 64, .inr (.inl xrg)))]) (W1 := [(a0, .inr (1, [.ref a1, .ref a2, .ref a3, .ref a4, .ref a5])), (a1, .inr (3, [.ref n1, .ref n2])), (n1, .inl (cI, 8, .inl md)), (n2, .inl (cJ, 8, .inr (.inl kn))), (a2, .inr (4, [.ref p1, .ref p2, .ref p3])), (p1, .inl (cJ, 12, .inr (.inl an))), (p2, .inl (cJ, 12, .inr (.inl sm))), (p3, .inl (cI, 12, .inl fl)), (a3, .inr (5, [.ref t1])), (t1, .inl (cJ, 8, .inr (.inl tf))), (a4, .inr (0, [.ref c1, .ref c2])), (c1, .inl (cI, 4, .inl sz)), (c2, .inl (cG, 4, .inr (.inr (.inr (.inr (f_rw r)))))), (r 0, .inl (cJ, 100, .inr (.inl (vs 0)))), (r 1, .inl (cJ, 100, .inr (.inl (vs 1)))), (r 2, .inl (cJ, 100, .inr (.inl (vs 2)))), (r 3, .inl (cJ, 100, .inr (.inl (vs 3)))), (a5, .inr (2, [.ref j1, .int (nI z), .int (nI q)])), (j1, .inl (cJ, 64, .inr (.inl rg))), (b0, .inr (1, [.ref b1, .ref b2, .ref b3, .ref b4, .ref b5])), (b1, .inr (3, [.ref xn1, .ref xn2])), (xn1, .inl (cI, 8, .inl md)), (xn2, .inl (cJ, 8, .inr (.inl kn))), (b2, .inr (4, [.ref xp1, .ref xp2, .ref xp3])), (xp1, .inl (cJ, 12, .inr (.inl an))), (xp2, .inl (cJ, 12, .inr (.inl xsm))), (xp3, .inl (cI, 12, .inl xfl)), (b3, .inr (5, [.ref xt1])), (xt1, .inl (cJ, 8, .inr (.inl xtf))), (b4, .inr (0, [.ref xc1, .ref xc2])), (xc1, .inl (cI, 4, .inl sz)), (xc2, .inl (cG, 4, .inr (.inr (.inr (.inr (f_rw xr)))))), (xr 0, .inl (cJ, 100, .inr (.inl (vs 0)))), (xr 1, .inl (cJ, 100, .inr (.inl (vs 1)))), (xr 2, .inl (cJ, 100, .inr (.inl (vs 2)))), (xr 3, .inl (cJ, 100, .inr (.inl (vs 3)))), (b5, .inr (2, [.ref xj1, .int (nI xz), .int (nI xq)])), (xj1, .inl (cJ, 64, .inr (.inl xrg)))]) (st1 := [.int 1]) ⟨hx, hb, hml, hown, hts⟩ (k_rvi (r' := 1) (if_pos (fun j hj => ⟨rfl, rfl⟩)) (k_NU_isLike l dC dI cI cJ cG cZ a1 n1 n2 md kn b1 xn1 xn2 md kn)) (cwV 1 hts (k_gV m_l_DK_114 m_i_NU_isLike m_s_NU_isLike m_in_NU m_c_NU_isLike) rfl rfl rfl (by decide +kernel) ⟨Nat.le_of_ble_eq_true rfl, Nat.le_of_ble_eq_true rfl⟩) hK hF hP hD hS hA [1, 2, 3, 20, 21, 22] [0, 4, 5, 6, 7, 8, 9, 10, 11, 12, 13, 14, 15, 16, 17, 18, 19, 23, 24, 25, 26, 27, 28, 29, 30, 31, 32, 33, 34, 35, 36, 37] [0, 32, 33, 34, 1, 2, 3, 4, 5, 6, 7, 8, 9, 10, 11, 12, 13, 14, 15, 16, 35, 36, 37, 17, 18, 19, 20, 21, 22, 23, 24, 25, 26, 27, 28, 29, 30, 31] rfl rfl (by decide) (by decide) (by decide) rfl (by decide) rfl rfl rfl rfl hl.1 rfl (Nat.le_of_ble_eq_true rfl) dDK_isLike_8 ⟨Nat.le_of_ble_eq_true rfl, Nat.le_of_ble_eq_true rfl⟩ rfl (fun H locs hP hD hS => ?_)
  refine lv_if_eq (tgt := 74) hx hb dDK_isLike_11 (by decide) (fun c_1 => ?_) (fun c_1 => ?_)
  · exact absurd c_1 (by decide)
  · refine lv_aload_n hx hb dDK_isLike_14 rfl (lv_at hl 0 rfl) ?_
    refine va_get (D := (dC, dI)) (ci := 1) (v := .ref a2) (C := RDK) (T := TDK) (N := 5) hx hb hts inDK hown hK hP 0 rfl rfl 1 (by decide) (hts _ m_f_DK_21) (fun _ h9 => h9) rfl dDK_isLike_15 ?_
    refine lv_aload_n hx hb dDK_isLike_18 rfl (lv_at hl 1 rfl) ?_
    refine va_get (D := (dC, dI)) (ci := 1) (v := .ref b2) (C := RDK) (T := TDK) (N := 5) hx hb hts inDK hown hK hP 19 rfl rfl 1 (by decide) (hts _ m_f_DK_21) (fun _ h9 => h9) rfl dDK_isLike_19 ?_
    refine k_V (wr := [(a0, .inr (1, [.ref a1, .ref a2, .ref a3, .ref a4, .ref a5])), (a1, .inr (3, [.ref n1, .ref n2])), (n1, .inl (cI, 8, .inl md)), (n2, .inl (cJ, 8, .inr (.inl kn))), (a3, .inr (5, [.ref t1])), (t1, .inl (cJ, 8, .inr (.inl tf))), (a4, .inr (0, [.ref c1, .ref c2])), (c1, .inl (cI, 4, .inl sz)), (c2, .inl (cG, 4, .inr (.inr (.inr (.inr (f_rw r)))))), (r 0, .inl (cJ, 100, .inr (.inl (vs 0)))), (r 1, .inl (cJ, 100, .inr (.inl (vs 1)))), (r 2, .inl (cJ, 100, .inr (.inl (vs 2)))), (r 3, .inl (cJ, 100, .inr (.inl (vs 3)))), (a5, .inr (2, [.ref j1, .int (nI z), .int (nI q)])), (j1, .inl (cJ, 64, .inr (.inl rg))), (b0, .inr (1, [.ref b1, .ref b2, .ref b3, .ref b4, .ref b5])), (b1, .inr (3, [.ref xn1, .ref xn2])), (xn1, .inl (cI, 8, .inl md)), (xn2, .inl (cJ, 8, .inr (.inl kn))), (b3, .inr (5, [.ref xt1])), (xt1, .inl (cJ, 8, .inr (.inl xtf))), (b4, .inr (0, [.ref xc1, .ref xc2])), (xc1, .inl (cI, 4, .inl sz)), (xc2, .inl (cG, 4, .inr (.inr (.inr (.inr (f_rw xr)))))), (xr 0, .inl (cJ, 100, .inr (.inl (vs 0)))), (xr 1, .inl (cJ, 100, .inr (.inl (vs 1)))), (xr 2, .inl (cJ, 100, .inr (.inl (vs 2)))), (xr 3, .inl (cJ, 100, .inr (.inl (vs 3)))), (b5, .inr (2, [.ref xj1, .int (nI xz), .int (nI xq)])), (xj1, .inl (cJ, 64, .inr (.inl xrg)))]) (W1 := [(a0, .inr (1, [.ref a1, .ref a2, .ref a3, .ref a4, .ref a5])), (a1, .inr (3, [.ref n1, .ref n2])), (n1, .inl (cI, 8, .inl md)), (n2, .inl (cJ, 8, .inr (.inl kn))), (a2, .inr (4, [.ref p1, .ref p2, .ref p3])), (p1, .inl (cJ, 12, .inr (.inl an))), (p2, .inl (cJ, 12, .inr (.inl sm))), (p3, .inl (cI, 12, .inl fl)), (a3, .inr (5, [.ref t1])), (t1, .inl (cJ, 8, .inr (.inl tf))), (a4, .inr (0, [.ref c1, .ref c2])), (c1, .inl (cI, 4, .inl sz)), (c2, .inl (cG, 4, .inr (.inr (.inr (.inr (f_rw r)))))), (r 0, .inl (cJ, 100, .inr (.inl (vs 0)))), (r 1, .inl (cJ, 100, .inr (.inl (vs 1)))), (r 2, .inl (cJ, 100, .inr (.inl (vs 2)))), (r 3, .inl (cJ, 100, .inr (.inl (vs 3)))), (a5, .inr (2, [.ref j1, .int (nI z), .int (nI q)])), (j1, .inl (cJ, 64, .inr (.inl rg))), (b0, .inr (1, [.ref b1, .ref b2, .ref b3, .ref b4, .ref b5])), (b1, .inr (3, [.ref xn1, .ref xn2])), (xn1, .inl (cI, 8, .inl md)), (xn2, .inl (cJ, 8, .inr (.inl kn))), (b2, .inr (4, [.ref xp1, .ref xp2, .ref xp3])), (xp1, .inl (cJ, 12, .inr (.inl an))), (xp2, .inl (cJ, 12, .inr (.inl xsm))), (xp3, .inl (cI, 12, .inl xfl)), (b3, .inr (5, [.ref xt1])), (xt1, .inl (cJ, 8, .inr (.inl xtf))), (b4, .inr (0, [.ref xc1, .ref xc2])), (xc1, .inl (cI, 4, .inl sz)), (xc2, .inl (cG, 4, .inr (.inr (.inr (.inr (f_rw xr)))))), (xr 0, .inl (cJ, 100, .inr (.inl (vs 0)))), (xr 1, .inl (cJ, 100, .inr (.inl (vs 1)))), (xr 2, .inl (cJ, 100, .inr (.inl (vs 2)))), (xr 3, .inl (cJ, 100, .inr (.inl (vs 3)))), (b5, .inr (2, [.ref xj1, .int (nI xz), .int (nI xq)])), (xj1, .inl (cJ, 64, .inr (.inl xrg)))]) (st1 := [.int (if ∀ j : Nat, j < 12 → sm j = xsm j then 1 else 0)]) ⟨hx, hb, hml, hown, hts⟩ (k_PT_hasSumsOf l dC dI cI cJ cG cZ a2 p1 p2 p3 an sm fl b2 xp1 xp2 xp3 an xsm xfl) (cwV 1 hts (k_gV m_l_DK_118 m_i_PT_hasSumsOf m_s_PT_hasSumsOf m_in_PT m_c_PT_hasSumsOf) rfl rfl rfl (by decide +kernel) ⟨Nat.le_of_ble_eq_true rfl, Nat.le_of_ble_eq_true rfl⟩) hK hF hP hD hS hA [4, 5, 6, 7, 23, 24, 25, 26] [0, 1, 2, 3, 8, 9, 10, 11, 12, 13, 14, 15, 16, 17, 18, 19, 20, 21, 22, 27, 28, 29, 30, 31, 32, 33, 34, 35, 36, 37] [0, 1, 2, 3, 30, 31, 32, 33, 4, 5, 6, 7, 8, 9, 10, 11, 12, 13, 14, 15, 16, 17, 18, 34, 35, 36, 37, 19, 20, 21, 22, 23, 24, 25, 26, 27, 28, 29] rfl rfl (by decide) (by decide) (by decide) rfl (by decide) rfl rfl rfl rfl hl.1 rfl (Nat.le_of_ble_eq_true rfl) dDK_isLike_22 ⟨Nat.le_of_ble_eq_true rfl, Nat.le_of_ble_eq_true rfl⟩ rfl (fun H locs hP hD hS => ?_)
    refine lv_if_eq (tgt := 74) hx hb dDK_isLike_25 (by decide) (fun c_2 => ?_) (fun c_2 => ?_)
    · refine lv_iconst (v := 0) hx hb dDK_isLike_74 (by decide) ?_
      exact k_zret hx hb hr hlocks rfl hP hK hD hS (if_neg (fun h9 => ite_0.mp c_2 h9.1)).symm dDK_isLike_75 ⟨Nat.le_of_ble_eq_true rfl, Nat.le_of_ble_eq_true rfl⟩
    · refine lv_aload_n hx hb dDK_isLike_28 rfl (lv_at hl 0 rfl) ?_
      refine va_get (D := (dC, dI)) (ci := 1) (v := .ref a5) (C := RDK) (T := TDK) (N := 5) hx hb hts inDK hown hK hP 0 rfl rfl 4 (by decide) (hts _ m_f_DK_42) (fun _ h9 => h9) rfl dDK_isLike_29 ?_
      refine lv_aload_n hx hb dDK_isLike_32 rfl (lv_at hl 1 rfl) ?_
      refine va_get (D := (dC, dI)) (ci := 1) (v := .ref b5) (C := RDK) (T := TDK) (N := 5) hx hb hts inDK hown hK hP 19 rfl rfl 4 (by decide) (hts _ m_f_DK_42) (fun _ h9 => h9) rfl dDK_isLike_33 ?_
      refine k_V (wr := [(a0, .inr (1, [.ref a1, .ref a2, .ref a3, .ref a4, .ref a5])), (a1, .inr (3, [.ref n1, .ref n2])), (n1, .inl (cI, 8, .inl md)), (n2, .inl (cJ, 8, .inr (.inl kn))), (a2, .inr (4, [.ref p1, .ref p2, .ref p3])), (p1, .inl (cJ, 12, .inr (.inl an))), (p2, .inl (cJ, 12, .inr (.inl sm))), (p3, .inl (cI, 12, .inl fl)), (a3, .inr (5, [.ref t1])), (t1, .inl (cJ, 8, .inr (.inl tf))), (a4, .inr (0, [.ref c1, .ref c2])), (c1, .inl (cI, 4, .inl sz)), (c2, .inl (cG, 4, .inr (.inr (.inr (.inr (f_rw r)))))), (r 0, .inl (cJ, 100, .inr (.inl (vs 0)))), (r 1, .inl (cJ, 100, .inr (.inl (vs 1)))), (r 2, .inl (cJ, 100, .inr (.inl (vs 2)))), (r 3, .inl (cJ, 100, .inr (.inl (vs 3)))), (b0, .inr (1, [.ref b1, .ref b2, .ref b3, .ref b4, .ref b5])), (b1, .inr (3, [.ref xn1, .ref xn2])), (xn1, .inl (cI, 8, .inl md)), (xn2, .inl (cJ, 8, .inr (.inl kn))), (b2, .inr (4, [.ref xp1, .ref xp2, .ref xp3])), (xp1, .inl (cJ, 12, .inr (.inl an))), (xp2, .inl (cJ, 12, .inr (.inl xsm))), (xp3, .inl (cI, 12, .inl xfl)), (b3, .inr (5, [.ref xt1])), (xt1, .inl (cJ, 8, .inr (.inl xtf))), (b4, .inr (0, [.ref xc1, .ref xc2])), (xc1, .inl (cI, 4, .inl sz)), (xc2, .inl (cG, 4, .inr (.inr (.inr (.inr (f_rw xr)))))), (xr 0, .inl (cJ, 100, .inr (.inl (vs 0)))), (xr 1, .inl (cJ, 100, .inr (.inl (vs 1)))), (xr 2, .inl (cJ, 100, .inr (.inl (vs 2)))), (xr 3, .inl (cJ, 100, .inr (.inl (vs 3))))]) (W1 := [(a0, .inr (1, [.ref a1, .ref a2, .ref a3, .ref a4, .ref a5])), (a1, .inr (3, [.ref n1, .ref n2])), (n1, .inl (cI, 8, .inl md)), (n2, .inl (cJ, 8, .inr (.inl kn))), (a2, .inr (4, [.ref p1, .ref p2, .ref p3])), (p1, .inl (cJ, 12, .inr (.inl an))), (p2, .inl (cJ, 12, .inr (.inl sm))), (p3, .inl (cI, 12, .inl fl)), (a3, .inr (5, [.ref t1])), (t1, .inl (cJ, 8, .inr (.inl tf))), (a4, .inr (0, [.ref c1, .ref c2])), (c1, .inl (cI, 4, .inl sz)), (c2, .inl (cG, 4, .inr (.inr (.inr (.inr (f_rw r)))))), (r 0, .inl (cJ, 100, .inr (.inl (vs 0)))), (r 1, .inl (cJ, 100, .inr (.inl (vs 1)))), (r 2, .inl (cJ, 100, .inr (.inl (vs 2)))), (r 3, .inl (cJ, 100, .inr (.inl (vs 3)))), (a5, .inr (2, [.ref j1, .int (nI z), .int (nI q)])), (j1, .inl (cJ, 64, .inr (.inl rg))), (b0, .inr (1, [.ref b1, .ref b2, .ref b3, .ref b4, .ref b5])), (b1, .inr (3, [.ref xn1, .ref xn2])), (xn1, .inl (cI, 8, .inl md)), (xn2, .inl (cJ, 8, .inr (.inl kn))), (b2, .inr (4, [.ref xp1, .ref xp2, .ref xp3])), (xp1, .inl (cJ, 12, .inr (.inl an))), (xp2, .inl (cJ, 12, .inr (.inl xsm))), (xp3, .inl (cI, 12, .inl xfl)), (b3, .inr (5, [.ref xt1])), (xt1, .inl (cJ, 8, .inr (.inl xtf))), (b4, .inr (0, [.ref xc1, .ref xc2])), (xc1, .inl (cI, 4, .inl sz)), (xc2, .inl (cG, 4, .inr (.inr (.inr (.inr (f_rw xr)))))), (xr 0, .inl (cJ, 100, .inr (.inl (vs 0)))), (xr 1, .inl (cJ, 100, .inr (.inl (vs 1)))), (xr 2, .inl (cJ, 100, .inr (.inl (vs 2)))), (xr 3, .inl (cJ, 100, .inr (.inl (vs 3)))), (b5, .inr (2, [.ref xj1, .int (nI xz), .int (nI xq)])), (xj1, .inl (cJ, 64, .inr (.inl xrg)))]) (st1 := [.int (if z = xz ∧ ∀ j : Nat, j < z → rg (f_ix q z j) = xrg (f_ix xq xz j) then 1 else 0)]) ⟨hx, hb, hml, hown, hts⟩ (k_JN_isLike l dC dI cI cJ cG cZ a5 j1 rg z q b5 xj1 xrg xz xq hz hq hz2 hq2) (cwV 1 hts (k_gV m_l_DK_122 m_i_JN_isLike m_s_JN_isLike m_in_JN m_c_JN_isLike) rfl rfl rfl (by decide +kernel) ⟨Nat.le_of_ble_eq_true rfl, Nat.le_of_ble_eq_true rfl⟩) hK hF hP hD hS hA [17, 18, 36, 37] [0, 1, 2, 3, 4, 5, 6, 7, 8, 9, 10, 11, 12, 13, 14, 15, 16, 19, 20, 21, 22, 23, 24, 25, 26, 27, 28, 29, 30, 31, 32, 33, 34, 35] [0, 1, 2, 3, 4, 5, 6, 7, 8, 9, 10, 11, 12, 13, 14, 15, 16, 34, 35, 17, 18, 19, 20, 21, 22, 23, 24, 25, 26, 27, 28, 29, 30, 31, 32, 33, 36, 37] rfl rfl (by decide) (by decide) (by decide) rfl (by decide) rfl rfl rfl rfl hl.1 rfl (Nat.le_of_ble_eq_true rfl) dDK_isLike_36 ⟨Nat.le_of_ble_eq_true rfl, Nat.le_of_ble_eq_true rfl⟩ rfl (fun H locs hP hD hS => ?_)
      refine lv_if_eq (tgt := 74) hx hb dDK_isLike_39 (by decide) (fun c_3 => ?_) (fun c_3 => ?_)
      · refine lv_iconst (v := 0) hx hb dDK_isLike_74 (by decide) ?_
        exact k_zret hx hb hr hlocks rfl hP hK hD hS (if_neg (fun h9 => ite_0.mp c_3 h9.2.1)).symm dDK_isLike_75 ⟨Nat.le_of_ble_eq_true rfl, Nat.le_of_ble_eq_true rfl⟩
      · refine lv_aload_n hx hb dDK_isLike_42 rfl (lv_at hl 0 rfl) ?_
        refine va_get (D := (dC, dI)) (ci := 1) (v := .ref a3) (C := RDK) (T := TDK) (N := 5) hx hb hts inDK hown hK hP 0 rfl rfl 2 (by decide) (hts _ m_f_DK_28) (fun _ h9 => h9) rfl dDK_isLike_43 ?_
        refine lv_aload_n hx hb dDK_isLike_46 rfl (lv_at hl 1 rfl) ?_
        refine va_get (D := (dC, dI)) (ci := 1) (v := .ref b3) (C := RDK) (T := TDK) (N := 5) hx hb hts inDK hown hK hP 19 rfl rfl 2 (by decide) (hts _ m_f_DK_28) (fun _ h9 => h9) rfl dDK_isLike_47 ?_
        refine k_V (wr := [(a0, .inr (1, [.ref a1, .ref a2, .ref a3, .ref a4, .ref a5])), (a1, .inr (3, [.ref n1, .ref n2])), (n1, .inl (cI, 8, .inl md)), (n2, .inl (cJ, 8, .inr (.inl kn))), (a2, .inr (4, [.ref p1, .ref p2, .ref p3])), (p1, .inl (cJ, 12, .inr (.inl an))), (p2, .inl (cJ, 12, .inr (.inl sm))), (p3, .inl (cI, 12, .inl fl)), (a4, .inr (0, [.ref c1, .ref c2])), (c1, .inl (cI, 4, .inl sz)), (c2, .inl (cG, 4, .inr (.inr (.inr (.inr (f_rw r)))))), (r 0, .inl (cJ, 100, .inr (.inl (vs 0)))), (r 1, .inl (cJ, 100, .inr (.inl (vs 1)))), (r 2, .inl (cJ, 100, .inr (.inl (vs 2)))), (r 3, .inl (cJ, 100, .inr (.inl (vs 3)))), (a5, .inr (2, [.ref j1, .int (nI z), .int (nI q)])), (j1, .inl (cJ, 64, .inr (.inl rg))), (b0, .inr (1, [.ref b1, .ref b2, .ref b3, .ref b4, .ref b5])), (b1, .inr (3, [.ref xn1, .ref xn2])), (xn1, .inl (cI, 8, .inl md)), (xn2, .inl (cJ, 8, .inr (.inl kn))), (b2, .inr (4, [.ref xp1, .ref xp2, .ref xp3])), (xp1, .inl (cJ, 12, .inr (.inl an))), (xp2, .inl (cJ, 12, .inr (.inl xsm))), (xp3, .inl (cI, 12, .inl xfl)), (b4, .inr (0, [.ref xc1, .ref xc2])), (xc1, .inl (cI, 4, .inl sz)), (xc2, .inl (cG, 4, .inr (.inr (.inr (.inr (f_rw xr)))))), (xr 0, .inl (cJ, 100, .inr (.inl (vs 0)))), (xr 1, .inl (cJ, 100, .inr (.inl (vs 1)))), (xr 2, .inl (cJ, 100, .inr (.inl (vs 2)))), (xr 3, .inl (cJ, 100, .inr (.inl (vs 3)))), (b5, .inr (2, [.ref xj1, .int (nI xz), .int (nI xq)])), (xj1, .inl (cJ, 64, .inr (.inl xrg)))]) (W1 := [(a0, .inr (1, [.ref a1, .ref a2, .ref a3, .ref a4, .ref a5])), (a1, .inr (3, [.ref n1, .ref n2])), (n1, .inl (cI, 8, .inl md)), (n2, .inl (cJ, 8, .inr (.inl kn))), (a2, .inr (4, [.ref p1, .ref p2, .ref p3])), (p1, .inl (cJ, 12, .inr (.inl an))), (p2, .inl (cJ, 12, .inr (.inl sm))), (p3, .inl (cI, 12, .inl fl)), (a3, .inr (5, [.ref t1])), (t1, .inl (cJ, 8, .inr (.inl tf))), (a4, .inr (0, [.ref c1, .ref c2])), (c1, .inl (cI, 4, .inl sz)), (c2, .inl (cG, 4, .inr (.inr (.inr (.inr (f_rw r)))))), (r 0, .inl (cJ, 100, .inr (.inl (vs 0)))), (r 1, .inl (cJ, 100, .inr (.inl (vs 1)))), (r 2, .inl (cJ, 100, .inr (.inl (vs 2)))), (r 3, .inl (cJ, 100, .inr (.inl (vs 3)))), (a5, .inr (2, [.ref j1, .int (nI z), .int (nI q)])), (j1, .inl (cJ, 64, .inr (.inl rg))), (b0, .inr (1, [.ref b1, .ref b2, .ref b3, .ref b4, .ref b5])), (b1, .inr (3, [.ref xn1, .ref xn2])), (xn1, .inl (cI, 8, .inl md)), (xn2, .inl (cJ, 8, .inr (.inl kn))), (b2, .inr (4, [.ref xp1, .ref xp2, .ref xp3])), (xp1, .inl (cJ, 12, .inr (.inl an))), (xp2, .inl (cJ, 12, .inr (.inl xsm))), (xp3, .inl (cI, 12, .inl xfl)), (b3, .inr (5, [.ref xt1])), (xt1, .inl (cJ, 8, .inr (.inl xtf))), (b4, .inr (0, [.ref xc1, .ref xc2])), (xc1, .inl (cI, 4, .inl sz)), (xc2, .inl (cG, 4, .inr (.inr (.inr (.inr (f_rw xr)))))), (xr 0, .inl (cJ, 100, .inr (.inl (vs 0)))), (xr 1, .inl (cJ, 100, .inr (.inl (vs 1)))), (xr 2, .inl (cJ, 100, .inr (.inl (vs 2)))), (xr 3, .inl (cJ, 100, .inr (.inl (vs 3)))), (b5, .inr (2, [.ref xj1, .int (nI xz), .int (nI xq)])), (xj1, .inl (cJ, 64, .inr (.inl xrg)))]) (st1 := [.int (if ∀ j : Nat, j < 8 → tf j = xtf j then 1 else 0)]) ⟨hx, hb, hml, hown, hts⟩ (k_TL_isLike l dC dI cI cJ cG cZ a3 t1 tf b3 xt1 xtf) (cwV 1 hts (k_gV m_l_DK_125 m_i_TL_isLike m_s_TL_isLike m_in_TL m_c_TL_isLike) rfl rfl rfl (by decide +kernel) ⟨Nat.le_of_ble_eq_true rfl, Nat.le_of_ble_eq_true rfl⟩) hK hF hP hD hS hA [8, 9, 27, 28] [0, 1, 2, 3, 4, 5, 6, 7, 10, 11, 12, 13, 14, 15, 16, 17, 18, 19, 20, 21, 22, 23, 24, 25, 26, 29, 30, 31, 32, 33, 34, 35, 36, 37] [0, 1, 2, 3, 4, 5, 6, 7, 34, 35, 8, 9, 10, 11, 12, 13, 14, 15, 16, 17, 18, 19, 20, 21, 22, 23, 24, 36, 37, 25, 26, 27, 28, 29, 30, 31, 32, 33] rfl rfl (by decide) (by decide) (by decide) rfl (by decide) rfl rfl rfl rfl hl.1 rfl (Nat.le_of_ble_eq_true rfl) dDK_isLike_50 ⟨Nat.le_of_ble_eq_true rfl, Nat.le_of_ble_eq_true rfl⟩ rfl (fun H locs hP hD hS => ?_)
        refine lv_if_eq (tgt := 74) hx hb dDK_isLike_53 (by decide) (fun c_4 => ?_) (fun c_4 => ?_)
        · refine lv_iconst (v := 0) hx hb dDK_isLike_74 (by decide) ?_
          exact k_zret hx hb hr hlocks rfl hP hK hD hS (if_neg (fun h9 => ite_0.mp c_4 h9.2.2)).symm dDK_isLike_75 ⟨Nat.le_of_ble_eq_true rfl, Nat.le_of_ble_eq_true rfl⟩
        · refine lv_aload_n hx hb dDK_isLike_56 rfl (lv_at hl 0 rfl) ?_
          refine va_get (D := (dC, dI)) (ci := 1) (v := .ref a4) (C := RDK) (T := TDK) (N := 5) hx hb hts inDK hown hK hP 0 rfl rfl 3 (by decide) (hts _ m_f_DK_35) (fun _ h9 => h9) rfl dDK_isLike_57 ?_
          refine lv_aload_n hx hb dDK_isLike_60 rfl (lv_at hl 1 rfl) ?_
          refine va_get (D := (dC, dI)) (ci := 1) (v := .ref b4) (C := RDK) (T := TDK) (N := 5) hx hb hts inDK hown hK hP 19 rfl rfl 3 (by decide) (hts _ m_f_DK_35) (fun _ h9 => h9) rfl dDK_isLike_61 ?_
          refine k_V (wr := [(a0, .inr (1, [.ref a1, .ref a2, .ref a3, .ref a4, .ref a5])), (a1, .inr (3, [.ref n1, .ref n2])), (n1, .inl (cI, 8, .inl md)), (n2, .inl (cJ, 8, .inr (.inl kn))), (a2, .inr (4, [.ref p1, .ref p2, .ref p3])), (p1, .inl (cJ, 12, .inr (.inl an))), (p2, .inl (cJ, 12, .inr (.inl sm))), (p3, .inl (cI, 12, .inl fl)), (a3, .inr (5, [.ref t1])), (t1, .inl (cJ, 8, .inr (.inl tf))), (a5, .inr (2, [.ref j1, .int (nI z), .int (nI q)])), (j1, .inl (cJ, 64, .inr (.inl rg))), (b0, .inr (1, [.ref b1, .ref b2, .ref b3, .ref b4, .ref b5])), (b1, .inr (3, [.ref xn1, .ref xn2])), (xn1, .inl (cI, 8, .inl md)), (xn2, .inl (cJ, 8, .inr (.inl kn))), (b2, .inr (4, [.ref xp1, .ref xp2, .ref xp3])), (xp1, .inl (cJ, 12, .inr (.inl an))), (xp2, .inl (cJ, 12, .inr (.inl xsm))), (xp3, .inl (cI, 12, .inl xfl)), (b3, .inr (5, [.ref xt1])), (xt1, .inl (cJ, 8, .inr (.inl xtf))), (b5, .inr (2, [.ref xj1, .int (nI xz), .int (nI xq)])), (xj1, .inl (cJ, 64, .inr (.inl xrg)))]) (W1 := [(a0, .inr (1, [.ref a1, .ref a2, .ref a3, .ref a4, .ref a5])), (a1, .inr (3, [.ref n1, .ref n2])), (n1, .inl (cI, 8, .inl md)), (n2, .inl (cJ, 8, .inr (.inl kn))), (a2, .inr (4, [.ref p1, .ref p2, .ref p3])), (p1, .inl (cJ, 12, .inr (.inl an))), (p2, .inl (cJ, 12, .inr (.inl sm))), (p3, .inl (cI, 12, .inl fl)), (a3, .inr (5, [.ref t1])), (t1, .inl (cJ, 8, .inr (.inl tf))), (a4, .inr (0, [.ref c1, .ref c2])), (c1, .inl (cI, 4, .inl sz)), (c2, .inl (cG, 4, .inr (.inr (.inr (.inr (f_rw r)))))), (r 0, .inl (cJ, 100, .inr (.inl (vs 0)))), (r 1, .inl (cJ, 100, .inr (.inl (vs 1)))), (r 2, .inl (cJ, 100, .inr (.inl (vs 2)))), (r 3, .inl (cJ, 100, .inr (.inl (vs 3)))), (a5, .inr (2, [.ref j1, .int (nI z), .int (nI q)])), (j1, .inl (cJ, 64, .inr (.inl rg))), (b0, .inr (1, [.ref b1, .ref b2, .ref b3, .ref b4, .ref b5])), (b1, .inr (3, [.ref xn1, .ref xn2])), (xn1, .inl (cI, 8, .inl md)), (xn2, .inl (cJ, 8, .inr (.inl kn))), (b2, .inr (4, [.ref xp1, .ref xp2, .ref xp3])), (xp1, .inl (cJ, 12, .inr (.inl an))), (xp2, .inl (cJ, 12, .inr (.inl xsm))), (xp3, .inl (cI, 12, .inl xfl)), (b3, .inr (5, [.ref xt1])), (xt1, .inl (cJ, 8, .inr (.inl xtf))), (b4, .inr (0, [.ref xc1, .ref xc2])), (xc1, .inl (cI, 4, .inl sz)), (xc2, .inl (cG, 4, .inr (.inr (.inr (.inr (f_rw xr)))))), (xr 0, .inl (cJ, 100, .inr (.inl (vs 0)))), (xr 1, .inl (cJ, 100, .inr (.inl (vs 1)))), (xr 2, .inl (cJ, 100, .inr (.inl (vs 2)))), (xr 3, .inl (cJ, 100, .inr (.inl (vs 3)))), (b5, .inr (2, [.ref xj1, .int (nI xz), .int (nI xq)])), (xj1, .inl (cJ, 64, .inr (.inl xrg)))]) (st1 := [.int 1]) ⟨hx, hb, hml, hown, hts⟩ (k_CV_isLike l dC dI cI cJ cG cZ a4 c1 c2 b4 xc1 xc2 r xr sz vs ns hns) (cwV 1 hts (k_gV m_l_DK_128 m_i_CV_isLike m_s_CV_isLike m_in_CV m_c_CV_isLike) rfl rfl rfl (by decide +kernel) ⟨Nat.le_of_ble_eq_true rfl, Nat.le_of_ble_eq_true rfl⟩) hK hF hP hD hS hA [10, 11, 12, 13, 14, 15, 16, 29, 30, 31, 32, 33, 34, 35] [0, 1, 2, 3, 4, 5, 6, 7, 8, 9, 17, 18, 19, 20, 21, 22, 23, 24, 25, 26, 27, 28, 36, 37] [0, 1, 2, 3, 4, 5, 6, 7, 8, 9, 24, 25, 26, 27, 28, 29, 30, 10, 11, 12, 13, 14, 15, 16, 17, 18, 19, 20, 21, 31, 32, 33, 34, 35, 36, 37, 22, 23] rfl rfl (by decide) (by decide) (by decide) rfl (by decide) rfl rfl rfl rfl hl.1 rfl (Nat.le_of_ble_eq_true rfl) dDK_isLike_64 ⟨Nat.le_of_ble_eq_true rfl, Nat.le_of_ble_eq_true rfl⟩ rfl (fun H locs hP hD hS => ?_)
          refine lv_if_eq (tgt := 74) hx hb dDK_isLike_67 (by decide) (fun c_5 => ?_) (fun c_5 => ?_)
          · exact absurd c_5 (by decide)
          · refine lv_iconst (v := 1) hx hb dDK_isLike_70 (by decide) ?_
            refine lv_goto (tgt := 75) hx hb dDK_isLike_71 (by decide) ?_
            exact k_zret hx hb hr hlocks rfl hP hK hD hS (if_pos ⟨ite_1 c_2, ite_1 c_3, ite_1 c_4⟩).symm dDK_isLike_75 ⟨Nat.le_of_ble_eq_true rfl, Nat.le_of_ble_eq_true rfl⟩
end
section
/-! ===== the bits of a number, counted as Long.bitCount counts them ===== -/
def bc (x : Nat) : Nat → Nat
  | 0 => 0
  | n + 1 => bc x n + (x / 2 ^ n) % 2
/-- a byte's worth of the mask b, k times -/
def bm (b : Nat) : Nat → Nat
  | 0 => 0
  | k + 1 => 256 * bm b k + b
theorem b_dig {a b s u : Nat} (hs : s < 256) (hu : u < 256) : (256 * a + s) &&& (256 * b + u) = 256 * (a &&& b) + (s &&& u) := by
  have hsu : s &&& u < 2 ^ 8 := Nat.and_lt_two_pow s (by omega)
  apply Nat.eq_of_testBit_eq
  intro j
  rw [Nat.testBit_and]
  rw [show (256 : Nat) = 2 ^ 8 from rfl]
  rw [Nat.testBit_two_pow_mul_add a (by omega : s < 2 ^ 8), Nat.testBit_two_pow_mul_add b (by omega : u < 2 ^ 8), Nat.testBit_two_pow_mul_add (a &&& b) hsu]
  by_cases h : j < 8
  · simp only [if_pos h, Nat.testBit_and]
  · simp only [if_neg h, Nat.testBit_and]
def b_s1 (k x : Nat) : Nat := x - ((x / 2) &&& bm 0x55 k)
def b_t1 (b : Nat) : Nat := b - ((b / 2) &&& 0x55)
theorem b_d1 : ∀ t, t < 2 → ∀ e, e < 128 → (128 * t + e) &&& 0x55 = e &&& 0x55 := by decide +kernel
theorem b_le1 : ∀ b, b < 256 → (b / 2) &&& 0x55 ≤ b ∧ b_t1 b < 256 := by decide +kernel
theorem b_le (x m : Nat) : (x / 2) &&& m ≤ x := Nat.le_trans Nat.and_le_left (Nat.div_le_self x 2)
theorem b_step1 (k y b : Nat) (hb : b < 256) : b_s1 (k + 1) (256 * y + b) = 256 * b_s1 k y + b_t1 b := by
  have e : (256 * y + b) / 2 = 256 * (y / 2) + (128 * (y % 2) + b / 2) := by omega
  unfold b_s1 b_t1
  rw [e]
  show 256 * y + b - ((256 * (y / 2) + (128 * (y % 2) + b / 2)) &&& (256 * bm 0x55 k + 0x55)) = _
  rw [b_dig (by omega) (by decide), b_d1 (y % 2) (by omega) (b / 2) (by omega)]
  have h1 := b_le y (bm 0x55 k)
  have h2 := (b_le1 b hb).1
  omega
def b_s2 (k x : Nat) : Nat := (x &&& bm 0x33 k) + ((x / 4) &&& bm 0x33 k)
def b_t2 (c : Nat) : Nat := (c &&& 0x33) + ((c / 4) &&& 0x33)
theorem b_d2 : ∀ t, t < 4 → ∀ e, e < 64 → (64 * t + e) &&& 0x33 = e &&& 0x33 := by decide +kernel
theorem b_step2 (k y c : Nat) (hc : c < 256) : b_s2 (k + 1) (256 * y + c) = 256 * b_s2 k y + b_t2 c := by
  have e : (256 * y + c) / 4 = 256 * (y / 4) + (64 * (y % 4) + c / 4) := by omega
  unfold b_s2 b_t2
  rw [e]
  show ((256 * y + c) &&& (256 * bm 0x33 k + 0x33)) + ((256 * (y / 4) + (64 * (y % 4) + c / 4)) &&& (256 * bm 0x33 k + 0x33)) = _
  rw [b_dig hc (by decide), b_dig (by omega) (by decide), b_d2 (y % 4) (by omega) (c / 4) (by omega)]
  omega
def b_s3 (k x : Nat) : Nat := (x + x / 16) &&& bm 0x0f k
theorem b_d3 : ∀ t, t < 5 → ∀ b, b < 256 → b_t2 (b_t1 b) + b_t2 (b_t1 b) / 16 + 16 * t < 256 ∧ (b_t2 (b_t1 b) + b_t2 (b_t1 b) / 16 + 16 * t) &&& 0x0f = bc b 8 := by decide +kernel
theorem b_d4 : ∀ b, b < 256 → b_t2 (b_t1 b) % 16 < 5 ∧ b_t2 (b_t1 b) < 256 := by decide +kernel
theorem b_step3 (k Y b : Nat) (hb : b < 256) (hY : Y % 16 < 5) : b_s3 (k + 1) (256 * Y + b_t2 (b_t1 b)) = 256 * b_s3 k Y + bc b 8 := by
  obtain ⟨h1, h2⟩ := b_d3 (Y % 16) hY b hb
  generalize b_t2 (b_t1 b) = c at h1 h2 ⊢
  have e : 256 * Y + c + (256 * Y + c) / 16 = 256 * (Y + Y / 16) + (c + c / 16 + 16 * (Y % 16)) := by omega
  unfold b_s3
  rw [e]
  show (256 * (Y + Y / 16) + (c + c / 16 + 16 * (Y % 16))) &&& (256 * bm 0x0f k + 0x0f) = _
  rw [b_dig h1 (by decide), h2]
/-- all three stages, byte by byte -/
def b_all (k x : Nat) : Nat := b_s3 k (b_s2 k (b_s1 k x))
theorem b_low (k x : Nat) : b_s2 k (b_s1 k x) % 16 < 5 := by
  cases k with
  | zero =>
    have h : b_s2 0 (b_s1 0 x) = 0 := by simp [b_s2, bm]
    rw [h]; decide
  | succ k =>
    have e : x = 256 * (x / 256) + x % 256 := by omega
    rw [e, b_step1 k _ _ (by omega), b_step2 k _ _ ((b_le1 _ (by omega)).2)]
    have := (b_d4 (x % 256) (by omega)).1
    omega
theorem b_all_step (k x : Nat) : b_all (k + 1) x = 256 * b_all k (x / 256) + bc (x % 256) 8 := by
  have e : x = 256 * (x / 256) + x % 256 := by omega
  unfold b_all
  conv => lhs; rw [e]
  rw [b_step1 k _ _ (by omega), b_step2 k _ _ ((b_le1 _ (by omega)).2), b_step3 k _ _ (by omega) (b_low k _)]
theorem b_all_0 (x : Nat) : b_all 0 x = 0 := by simp [b_all, b_s3, bm]
theorem bc_lo : ∀ j, j < 8 → ∀ x : Nat, (x / 2 ^ j) % 2 = (x % 256 / 2 ^ j) % 2 := by
  intro j hj x
  rcases (show j = 0 ∨ j = 1 ∨ j = 2 ∨ j = 3 ∨ j = 4 ∨ j = 5 ∨ j = 6 ∨ j = 7 by omega) with h | h | h | h | h | h | h | h <;> subst h <;> simp only [Nat.reducePow] <;> omega
theorem bc_split8 (x : Nat) : bc x 8 = bc (x % 256) 8 := by
  simp only [bc]
  rw [bc_lo 0 (by decide) x, bc_lo 1 (by decide) x, bc_lo 2 (by decide) x, bc_lo 3 (by decide) x, bc_lo 4 (by decide) x, bc_lo 5 (by decide) x, bc_lo 6 (by decide) x, bc_lo 7 (by decide) x]
theorem bc_split (x n : Nat) : bc x (n + 8) = bc (x % 256) 8 + bc (x / 256) n := by
  induction n with
  | zero => rw [Nat.zero_add, bc_split8]; rfl
  | succ n ih =>
    have e : x / 2 ^ (n + 8) = x / 256 / 2 ^ n := by
      rw [Nat.div_div_eq_div_mul, Nat.pow_add, Nat.mul_comm]
    show bc x (n + 8) + (x / 2 ^ (n + 8)) % 2 = _ + (bc (x / 256) n + (x / 256 / 2 ^ n) % 2)
    rw [ih, e]
    omega
theorem bc_le (x n : Nat) : bc x n ≤ n := by
  induction n with
  | zero => exact Nat.le_refl 0
  | succ n ih =>
    show bc x n + (x / 2 ^ n) % 2 ≤ n + 1
    have := Nat.mod_lt (x / 2 ^ n) (by decide : 0 < 2)
    omega
theorem b_dm (m q r : Nat) (hm : 0 < m) (hr : r < m) : (m * q + r) / m = q := by
  rw [Nat.mul_add_div hm, Nat.div_eq_of_lt hr, Nat.add_zero]
theorem b_e2 (q1 q3 p0 p1 p2 A : Nat) (h1 : q1 = 256 * (256 * q3 + p2) + p1) (hA : A = 257 * q3 + p2) : 256 * q1 + p0 + q1 = 65536 * A + (256 * (p1 + p2) + (p0 + p1)) := by omega
theorem b_eA (q3 q4 q5 p2 p3 p4 A : Nat) (h3 : q3 = 256 * q4 + p3) (h4 : q4 = 256 * q5 + p4) (hA : A = 257 * q3 + p2) : A = 65536 * (q4 + q5) + (256 * (p3 + p4) + (p2 + p3)) := by omega
theorem b_eC (q4 q5 q6 p4 p5 p6 p7 : Nat) (h4 : q4 = 256 * q5 + p4) (h5 : q5 = 256 * q6 + p5) (h6 : q6 = 256 * p7 + p6) : q4 + q5 = 65536 * (q6 + p7) + (256 * (p5 + p6) + (p4 + p5)) := by omega
theorem b_e3 (S C E A p0 p1 p2 p3 p4 p5 p6 : Nat) (e2 : S = 65536 * A + (256 * (p1 + p2) + (p0 + p1))) (eA : A = 65536 * C + (256 * (p3 + p4) + (p2 + p3))) (eC : C = 65536 * E + (256 * (p5 + p6) + (p4 + p5))) : S + A = 4294967296 * (C + E) + (65536 * (256 * (p3 + p4 + p5 + p6) + (p2 + p3 + p4 + p5)) + (256 * (p1 + p2 + p3 + p4) + (p0 + p1 + p2 + p3))) := by omega
theorem b_r3 (p0 p1 p2 p3 p4 p5 p6 : Nat) (l0 : p0 ≤ 8) (l1 : p1 ≤ 8) (l2 : p2 ≤ 8) (l3 : p3 ≤ 8) (l4 : p4 ≤ 8) (l5 : p5 ≤ 8) (l6 : p6 ≤ 8) : 65536 * (256 * (p3 + p4 + p5 + p6) + (p2 + p3 + p4 + p5)) + (256 * (p1 + p2 + p3 + p4) + (p0 + p1 + p2 + p3)) < 4294967296 := by omega
theorem b_eB (q4 q5 q6 p4 p5 p6 p7 : Nat) (h4 : q4 = 256 * q5 + p4) (h5 : q5 = 256 * q6 + p5) (h6 : q6 = 256 * p7 + p6) : q4 + q5 + (q6 + p7) = 256 * (q5 + q6 + p7) + (p4 + p5 + p6 + p7) := by omega
theorem b_e4 (B Z X p0 p1 p2 p3 p4 p5 p6 p7 : Nat) (eB : B = 256 * Z + (p4 + p5 + p6 + p7)) : 4294967296 * B + (65536 * X + (256 * (p1 + p2 + p3 + p4) + (p0 + p1 + p2 + p3))) + B = 128 * (33554432 * B + 512 * X + 2 * (p1 + p2 + p3 + p4) + 2 * Z) + (p0 + (p1 + (p2 + (p3 + (p4 + (p5 + (p6 + p7))))))) := by omega
def b_fold (s3 : Nat) : Nat := let s4 := s3 + s3 / 256; let s5 := s4 + s4 / 65536; (s5 + s5 / 4294967296) % 128
theorem b_sum (p0 p1 p2 p3 p4 p5 p6 p7 : Nat) (l0 : p0 ≤ 8) (l1 : p1 ≤ 8) (l2 : p2 ≤ 8) (l3 : p3 ≤ 8) (l4 : p4 ≤ 8) (l5 : p5 ≤ 8) (l6 : p6 ≤ 8) (l7 : p7 ≤ 8) :
    b_fold (256 * (256 * (256 * (256 * (256 * (256 * (256 * (256 * 0 + p7) + p6) + p5) + p4) + p3) + p2) + p1) + p0) = p0 + (p1 + (p2 + (p3 + (p4 + (p5 + (p6 + p7)))))) := by
  rw [Nat.mul_zero, Nat.zero_add]
  generalize h6 : 256 * p7 + p6 = q6
  generalize h5 : 256 * q6 + p5 = q5
  generalize h4 : 256 * q5 + p4 = q4
  generalize h3 : 256 * q4 + p3 = q3
  generalize h1 : 256 * (256 * q3 + p2) + p1 = q1
  have d1 : (256 * q1 + p0) / 256 = q1 := b_dm 256 q1 p0 (by decide) (Nat.lt_of_le_of_lt l0 (by decide))
  generalize hA : 257 * q3 + p2 = A
  have e2 := b_e2 q1 q3 p0 p1 p2 A h1.symm hA.symm
  have d2 : (256 * q1 + p0 + q1) / 65536 = A := by
    rw [e2]
    refine b_dm 65536 A _ (by decide) ?_
    clear e2 d1 hA h1 h3 h4 h5 h6
    omega
  have eA := b_eA q3 q4 q5 p2 p3 p4 A h3.symm h4.symm hA.symm
  have eC := b_eC q4 q5 q6 p4 p5 p6 p7 h4.symm h5.symm h6.symm
  have e3 := b_e3 (256 * q1 + p0 + q1) (q4 + q5) (q6 + p7) A p0 p1 p2 p3 p4 p5 p6 e2 eA eC
  have d3 : (256 * q1 + p0 + q1 + A) / 4294967296 = q4 + q5 + (q6 + p7) := by
    rw [e3]
    exact b_dm 4294967296 _ _ (by decide) (b_r3 p0 p1 p2 p3 p4 p5 p6 l0 l1 l2 l3 l4 l5 l6)
  simp only [b_fold]
  rw [d1, d2, d3, e3, b_e4 _ _ _ p0 p1 p2 p3 p4 p5 p6 p7 (b_eB q4 q5 q6 p4 p5 p6 p7 h4.symm h5.symm h6.symm), Nat.mul_add_mod]
  refine Nat.mod_eq_of_lt ?_
  clear d1 d2 d3 e3 e2 eA eC hA h1 h3 h4 h5 h6
  omega
theorem b_count (x : Nat) : b_fold (b_all 8 x) = bc x 64 := by
  rw [bc_split x 56, bc_split _ 48, bc_split _ 40, bc_split _ 32, bc_split _ 24, bc_split _ 16, bc_split _ 8, bc_split8 (x / 256 / 256 / 256 / 256 / 256 / 256 / 256)]
  rw [b_all_step, b_all_step, b_all_step, b_all_step, b_all_step, b_all_step, b_all_step, b_all_step, b_all_0]
  exact b_sum _ _ _ _ _ _ _ _ (bc_le _ 8) (bc_le _ 8) (bc_le _ 8) (bc_le _ 8) (bc_le _ 8) (bc_le _ 8) (bc_le _ 8) (bc_le _ 8)
def f_b1 (x : Int64) : Int64 := x - ((x.toUInt64 >>> ((1 : Int32).toInt64.toUInt64 &&& Int64.toUInt64 63)).toInt64 &&& 6148914691236517205)
def f_b2 (x : Int64) : Int64 := (x &&& 3689348814741910323) + ((x.toUInt64 >>> ((2 : Int32).toInt64.toUInt64 &&& Int64.toUInt64 63)).toInt64 &&& 3689348814741910323)
def f_b3 (x : Int64) : Int64 := (x + (x.toUInt64 >>> ((4 : Int32).toInt64.toUInt64 &&& Int64.toUInt64 63)).toInt64) &&& 1085102592571150095
def f_b4 (n : Int32) (x : Int64) : Int64 := x + (x.toUInt64 >>> (n.toInt64.toUInt64 &&& Int64.toUInt64 63)).toInt64
def f_pop (x : Int64) : Int32 := (f_b4 32 (f_b4 16 (f_b4 8 (f_b3 (f_b2 (f_b1 x)))))).toInt32 &&& 127
def f_nat (x : Int64) : Nat := x.toBitVec.toNat
theorem f_nlt (x : Int64) : f_nat x < 2 ^ 64 := x.toBitVec.isLt
theorem f_n_and (x y : Int64) : f_nat (x &&& y) = f_nat x &&& f_nat y := by unfold f_nat; rw [Int64.toBitVec_and, BitVec.toNat_and]
theorem f_n_add (x y : Int64) (h : f_nat x + f_nat y < 2 ^ 64) : f_nat (x + y) = f_nat x + f_nat y := by
  unfold f_nat at h ⊢
  rw [Int64.toBitVec_add, BitVec.toNat_add, Nat.mod_eq_of_lt h]
theorem f_n_sub (x y : Int64) (h : f_nat y ≤ f_nat x) : f_nat (x - y) = f_nat x - f_nat y := by
  unfold f_nat at h ⊢
  rw [Int64.toBitVec_sub, BitVec.toNat_sub_of_le (BitVec.le_def.mpr h)]
theorem f_n_shr (n : Nat) (hn : n < 64) (k : Int32) (hk : (k.toInt64.toUInt64 &&& Int64.toUInt64 63).toNat = n) (x : Int64) : f_nat ((x.toUInt64 >>> (k.toInt64.toUInt64 &&& Int64.toUInt64 63)).toInt64) = f_nat x / 2 ^ n := by
  show (x.toUInt64 >>> (k.toInt64.toUInt64 &&& Int64.toUInt64 63)).toNat = x.toUInt64.toNat / 2 ^ n
  rw [UInt64.toNat_shiftRight, hk, Nat.mod_eq_of_lt hn, Nat.shiftRight_eq_div_pow]
theorem f_pop_eq (x : Int64) : f_pop x = nI (bc (f_nat x) 64) := by
  have e5 : f_nat 6148914691236517205 = bm 0x55 8 := by decide +kernel
  have e3 : f_nat 3689348814741910323 = bm 0x33 8 := by decide +kernel
  have ef : f_nat 1085102592571150095 = bm 0x0f 8 := by decide +kernel
  have b1 : f_nat (f_b1 x) = b_s1 8 (f_nat x) := by
    unfold f_b1 b_s1
    have h1 : f_nat ((x.toUInt64 >>> ((1 : Int32).toInt64.toUInt64 &&& Int64.toUInt64 63)).toInt64 &&& 6148914691236517205) = (f_nat x / 2) &&& bm 0x55 8 := by
      rw [f_n_and, e5, f_n_shr 1 (by decide) 1 (by decide)]
    rw [f_n_sub _ _ (by rw [h1]; exact b_le _ _), h1]
  have l3 : ∀ y : Nat, y &&& bm 0x33 8 ≤ 0x3333333333333333 := fun y => Nat.and_le_right
  have b2 : f_nat (f_b2 (f_b1 x)) = b_s2 8 (b_s1 8 (f_nat x)) := by
    unfold f_b2 b_s2
    have h1 : f_nat (f_b1 x &&& 3689348814741910323) = b_s1 8 (f_nat x) &&& bm 0x33 8 := by rw [f_n_and, e3, b1]
    have h2 : f_nat (((f_b1 x).toUInt64 >>> ((2 : Int32).toInt64.toUInt64 &&& Int64.toUInt64 63)).toInt64 &&& 3689348814741910323) = (b_s1 8 (f_nat x) / 4) &&& bm 0x33 8 := by rw [f_n_and, e3, f_n_shr 2 (by decide) 2 (by decide), b1]
    have h3 := l3 (b_s1 8 (f_nat x))
    have h4 := l3 (b_s1 8 (f_nat x) / 4)
    rw [f_n_add _ _ (by rw [h1, h2]; omega), h1, h2]
  have b3 : f_nat (f_b3 (f_b2 (f_b1 x))) = b_all 8 (f_nat x) := by
    unfold f_b3 b_all b_s3
    have h1 : f_nat (((f_b2 (f_b1 x)).toUInt64 >>> ((4 : Int32).toInt64.toUInt64 &&& Int64.toUInt64 63)).toInt64) = b_s2 8 (b_s1 8 (f_nat x)) / 16 := by rw [f_n_shr 4 (by decide) 4 (by decide), b2]
    have h2 : b_s2 8 (b_s1 8 (f_nat x)) ≤ 0x6666666666666666 := by
      have h3 := l3 (b_s1 8 (f_nat x))
      have h4 := l3 (b_s1 8 (f_nat x) / 4)
      unfold b_s2
      omega
    rw [f_n_and, ef, f_n_add _ _ (by rw [h1, b2]; omega), h1, b2]
  have lf : b_all 8 (f_nat x) ≤ 0x0f0f0f0f0f0f0f0f := by
    unfold b_all b_s3
    exact Nat.and_le_right
  have hb := b_count (f_nat x)
  generalize b_all 8 (f_nat x) = a3 at b3 lf hb
  have b4 : f_nat (f_b4 8 (f_b3 (f_b2 (f_b1 x)))) = a3 + a3 / 256 := by
    unfold f_b4
    have h1 : f_nat (((f_b3 (f_b2 (f_b1 x))).toUInt64 >>> ((8 : Int32).toInt64.toUInt64 &&& Int64.toUInt64 63)).toInt64) = a3 / 256 := by rw [f_n_shr 8 (by decide) 8 (by decide), b3]
    rw [f_n_add _ _ (by rw [h1, b3]; omega), h1, b3]
  have b5 : f_nat (f_b4 16 (f_b4 8 (f_b3 (f_b2 (f_b1 x))))) = a3 + a3 / 256 + (a3 + a3 / 256) / 65536 := by
    rw [show f_b4 16 (f_b4 8 (f_b3 (f_b2 (f_b1 x)))) = f_b4 8 (f_b3 (f_b2 (f_b1 x))) + ((f_b4 8 (f_b3 (f_b2 (f_b1 x)))).toUInt64 >>> ((16 : Int32).toInt64.toUInt64 &&& Int64.toUInt64 63)).toInt64 from rfl]
    have h1 : f_nat (((f_b4 8 (f_b3 (f_b2 (f_b1 x)))).toUInt64 >>> ((16 : Int32).toInt64.toUInt64 &&& Int64.toUInt64 63)).toInt64) = (a3 + a3 / 256) / 65536 := by rw [f_n_shr 16 (by decide) 16 (by decide), b4]
    rw [f_n_add _ _ (by rw [h1, b4]; omega), h1, b4]
  have b6 : f_nat (f_b4 32 (f_b4 16 (f_b4 8 (f_b3 (f_b2 (f_b1 x)))))) = a3 + a3 / 256 + (a3 + a3 / 256) / 65536 + (a3 + a3 / 256 + (a3 + a3 / 256) / 65536) / 4294967296 := by
    rw [show f_b4 32 (f_b4 16 (f_b4 8 (f_b3 (f_b2 (f_b1 x))))) = f_b4 16 (f_b4 8 (f_b3 (f_b2 (f_b1 x)))) + ((f_b4 16 (f_b4 8 (f_b3 (f_b2 (f_b1 x))))).toUInt64 >>> ((32 : Int32).toInt64.toUInt64 &&& Int64.toUInt64 63)).toInt64 from rfl]
    have h1 : f_nat (((f_b4 16 (f_b4 8 (f_b3 (f_b2 (f_b1 x))))).toUInt64 >>> ((32 : Int32).toInt64.toUInt64 &&& Int64.toUInt64 63)).toInt64) = (a3 + a3 / 256 + (a3 + a3 / 256) / 65536) / 4294967296 := by rw [f_n_shr 32 (by decide) 32 (by decide), b5]
    rw [f_n_add _ _ (by rw [h1, b5]; omega), h1, b5]
  unfold f_pop
  generalize f_b4 32 (f_b4 16 (f_b4 8 (f_b3 (f_b2 (f_b1 x))))) = y at b6 ⊢
  have hy : y.toInt32 &&& 127 = nI (f_nat y % 128) := by
    apply Int32.toBitVec_inj.1
    apply BitVec.eq_of_toNat_eq
    rw [Int32.toBitVec_and, BitVec.toNat_and, Int64.toBitVec_toInt32, BitVec.signExtend_eq_setWidth_of_le _ (by decide), BitVec.toNat_setWidth]
    show (y.toBitVec.toNat % 2 ^ 32) &&& (2 ^ 7 - 1) = (BitVec.ofNat 32 (y.toBitVec.toNat % 128)).toNat
    rw [Nat.and_two_pow_sub_one_eq_mod, BitVec.toNat_ofNat]
    omega
  rw [hy, b6, ← hb]
  rfl
abbrev rm_LG_bitCount : Room := { frames := 0, cells := 0, slots := 0, locals := 0 }
set_option maxHeartbeats 4000000 in
set_option maxRecDepth 100000 in
theorem k_LG_bitCount (l : Launch) (dC : Nat → ClassId) (dI : Nat → Nat → Nat) (cI cJ cG cZ : ClassId) (x : Int64) : k_M l yLG_bitCount wsLG_bitCount rm_LG_bitCount (dC, dI) vwCl [(cI, .int), (cJ, .long), (cG, .array .long), (cZ, .boolean)] [.long x] [] (some (.int (nI (bc (f_nat x) 64)))) [] := by
  refine k_of (cc := cLG_bitCount) (maxL := 2) (ret := (some .int)) (by decide) rfl (Nat.le_of_ble_eq_true rfl) ?_
  intro p e s m below meth c A ls hx hb hr hlocks hml hown hts hA hP hD hK hF hl hS
  have hown : s.vm.findClass RLG = some m.cls := hown
  have hl : lv_has ls 2 [(0, .long x)] := hl
  refine lv_lload_n hx hb dLG_bitCount_0 rfl (lv_at hl 0 rfl) ?_
  refine lv_lload_n hx hb dLG_bitCount_1 rfl (lv_at hl 0 rfl) ?_
  refine lv_iconst (v := 1) hx hb dLG_bitCount_2 (by decide) ?_
  refine lv_lushr hx hb dLG_bitCount_3 rfl ?_
  refine lv_ldc2 (v := 6148914691236517205) hx hb hown (hts _ m_k_LG_314) dLG_bitCount_4 ?_
  refine lv_land hx hb dLG_bitCount_7 ?_
  refine lv_lsub hx hb dLG_bitCount_8 ?_
  refine k_topl (y := f_b1 x) rfl ?_
  refine lv_lstore_n (lv' := [(0, .long (f_b1 x))]) hx hb dLG_bitCount_9 rfl hl (by decide) rfl (fun ls hl => ?_)
  refine lv_lload_n hx hb dLG_bitCount_10 rfl (lv_at hl 0 rfl) ?_
  refine lv_ldc2 (v := 3689348814741910323) hx hb hown (hts _ m_k_LG_316) dLG_bitCount_11 ?_
  refine lv_land hx hb dLG_bitCount_14 ?_
  refine lv_lload_n hx hb dLG_bitCount_15 rfl (lv_at hl 0 rfl) ?_
  refine lv_iconst (v := 2) hx hb dLG_bitCount_16 (by decide) ?_
  refine lv_lushr hx hb dLG_bitCount_17 rfl ?_
  refine lv_ldc2 (v := 3689348814741910323) hx hb hown (hts _ m_k_LG_316) dLG_bitCount_18 ?_
  refine lv_land hx hb dLG_bitCount_21 ?_
  refine lv_ladd hx hb dLG_bitCount_22 ?_
  refine k_topl (y := f_b2 (f_b1 x)) rfl ?_
  refine lv_lstore_n (lv' := [(0, .long (f_b2 (f_b1 x)))]) hx hb dLG_bitCount_23 rfl hl (by decide) rfl (fun ls hl => ?_)
  refine lv_lload_n hx hb dLG_bitCount_24 rfl (lv_at hl 0 rfl) ?_
  refine lv_lload_n hx hb dLG_bitCount_25 rfl (lv_at hl 0 rfl) ?_
  refine lv_iconst (v := 4) hx hb dLG_bitCount_26 (by decide) ?_
  refine lv_lushr hx hb dLG_bitCount_27 rfl ?_
  refine lv_ladd hx hb dLG_bitCount_28 ?_
  refine lv_ldc2 (v := 1085102592571150095) hx hb hown (hts _ m_k_LG_318) dLG_bitCount_29 ?_
  refine lv_land hx hb dLG_bitCount_32 ?_
  refine k_topl (y := f_b3 (f_b2 (f_b1 x))) rfl ?_
  refine lv_lstore_n (lv' := [(0, .long (f_b3 (f_b2 (f_b1 x))))]) hx hb dLG_bitCount_33 rfl hl (by decide) rfl (fun ls hl => ?_)
  refine lv_lload_n hx hb dLG_bitCount_34 rfl (lv_at hl 0 rfl) ?_
  refine lv_lload_n hx hb dLG_bitCount_35 rfl (lv_at hl 0 rfl) ?_
  refine lv_bipush (v := 8) hx hb dLG_bitCount_36 (by decide) ?_
  refine lv_lushr hx hb dLG_bitCount_38 rfl ?_
  refine lv_ladd hx hb dLG_bitCount_39 ?_
  refine k_topl (y := f_b4 8 (f_b3 (f_b2 (f_b1 x)))) rfl ?_
  refine lv_lstore_n (lv' := [(0, .long (f_b4 8 (f_b3 (f_b2 (f_b1 x)))))]) hx hb dLG_bitCount_40 rfl hl (by decide) rfl (fun ls hl => ?_)
  refine lv_lload_n hx hb dLG_bitCount_41 rfl (lv_at hl 0 rfl) ?_
  refine lv_lload_n hx hb dLG_bitCount_42 rfl (lv_at hl 0 rfl) ?_
  refine lv_bipush (v := 16) hx hb dLG_bitCount_43 (by decide) ?_
  refine lv_lushr hx hb dLG_bitCount_45 rfl ?_
  refine lv_ladd hx hb dLG_bitCount_46 ?_
  refine k_topl (y := f_b4 16 (f_b4 8 (f_b3 (f_b2 (f_b1 x))))) rfl ?_
  refine lv_lstore_n (lv' := [(0, .long (f_b4 16 (f_b4 8 (f_b3 (f_b2 (f_b1 x))))))]) hx hb dLG_bitCount_47 rfl hl (by decide) rfl (fun ls hl => ?_)
  refine lv_lload_n hx hb dLG_bitCount_48 rfl (lv_at hl 0 rfl) ?_
  refine lv_lload_n hx hb dLG_bitCount_49 rfl (lv_at hl 0 rfl) ?_
  refine lv_bipush (v := 32) hx hb dLG_bitCount_50 (by decide) ?_
  refine lv_lushr hx hb dLG_bitCount_52 rfl ?_
  refine lv_ladd hx hb dLG_bitCount_53 ?_
  refine k_topl (y := f_b4 32 (f_b4 16 (f_b4 8 (f_b3 (f_b2 (f_b1 x)))))) rfl ?_
  refine lv_lstore_n (lv' := [(0, .long (f_b4 32 (f_b4 16 (f_b4 8 (f_b3 (f_b2 (f_b1 x)))))))]) hx hb dLG_bitCount_54 rfl hl (by decide) rfl (fun ls hl => ?_)
  refine lv_lload_n hx hb dLG_bitCount_55 rfl (lv_at hl 0 rfl) ?_
  refine lv_l2i hx hb dLG_bitCount_56 rfl ?_
  refine lv_bipush (v := 127) hx hb dLG_bitCount_57 (by decide) ?_
  refine lv_iand hx hb dLG_bitCount_59 ?_
  exact k_iret hx hb hr hlocks hP hK hD hS (f_pop_eq x) dLG_bitCount_60 ⟨Nat.le_of_ble_eq_true rfl, Nat.le_of_ble_eq_true rfl⟩

abbrev rm_NU_countKnown : Room := { frames := 1, cells := 0, slots := 0, locals := 21 }
set_option maxHeartbeats 4000000 in
set_option maxRecDepth 100000 in
theorem k_NU_countKnown (l : Launch) (dC : Nat → ClassId) (dI : Nat → Nat → Nat) (cI cJ cG cZ : ClassId) (h0 : Nat) (h1 : Nat) (h2 : Nat) (md : Nat → Int32) (kn : Nat → Int64) (k : Nat) (hk : k < 8) : k_M l yNU_countKnown wsNU_countKnown rm_NU_countKnown (dC, dI) vwCl [(cI, .int), (cJ, .long), (cG, .array .long), (cZ, .boolean)] [.ref h0, .int (nI k)] [(h0, .inr (3, [.ref h1, .ref h2])), (h1, .inl (cI, 8, .inl md)), (h2, .inl (cJ, 8, .inr (.inl kn)))] (some (.int (nI (bc (f_nat (kn k)) 64)))) [(h0, .inr (3, [.ref h1, .ref h2])), (h1, .inl (cI, 8, .inl md)), (h2, .inl (cJ, 8, .inr (.inl kn)))] := by
  refine k_of (cc := cNU_countKnown) (maxL := 2) (ret := (some .int)) (by decide) rfl (Nat.le_of_ble_eq_true rfl) ?_
  intro p e s m below meth c A ls hx hb hr hlocks hml hown hts hA hP hD hK hF hl hS
  have hown : s.vm.findClass RNU = some m.cls := hown
  have hl : lv_has ls 2 [(0, .ref h0), (1, .int (nI k))] := hl
  refine lv_aload_n hx hb dNU_countKnown_0 rfl (lv_at hl 0 rfl) ?_
  refine va_get (D := (dC, dI)) (ci := 3) (v := .ref h2) (C := RNU) (T := TNU) (N := 2) hx hb hts inNU hown hK hP 0 rfl rfl 1 (by decide) (hts _ m_f_NU_15) (fun _ h9 => h9) rfl dNU_countKnown_1 ?_
  refine lv_iload_n hx hb dNU_countKnown_4 rfl (lv_at hl 1 rfl) ?_
  refine k_lld (v := kn k) hx hb hK hP 2 1 rfl rfl (j := k) rfl hk (by decide) rfl dNU_countKnown_5 ?_
  refine k_S (wr := [(h0, .inr (3, [.ref h1, .ref h2])), (h1, .inl (cI, 8, .inl md)), (h2, .inl (cJ, 8, .inr (.inl kn)))]) (W1 := [(h0, .inr (3, [.ref h1, .ref h2])), (h1, .inl (cI, 8, .inl md)), (h2, .inl (cJ, 8, .inr (.inl kn)))]) (st1 := [.int (nI (bc (f_nat (kn k)) 64))]) ⟨hx, hb, hml, hown, hts⟩ (k_LG_bitCount l dC dI cI cJ cG cZ (kn k)) (va_cwS 1 hts (k_gS m_l_NU_29 m_st_LG_bitCount m_in_LG m_c_LG_bitCount) rfl rfl rfl (by decide +kernel) ⟨Nat.le_of_ble_eq_true rfl, Nat.le_of_ble_eq_true rfl⟩) hK hF hP hD hS hA [] [0, 1, 2] [0, 1, 2] rfl rfl (by decide) (by decide) (by decide) rfl (by decide) rfl hl.1 rfl (Nat.le_of_ble_eq_true rfl) dNU_countKnown_6 ⟨Nat.le_of_ble_eq_true rfl, Nat.le_of_ble_eq_true rfl⟩ rfl (fun H locs hP hD hS => ?_)
  exact k_iret hx hb hr hlocks hP hK hD hS rfl dNU_countKnown_9 ⟨Nat.le_of_ble_eq_true rfl, Nat.le_of_ble_eq_true rfl⟩
end
section
/-! ===== the face: what is answered, and what is left ===== -/
theorem f_range {x : Int32} {n : Nat} (hn : n < 2 ^ 31) (h0 : ¬ x < 0) (h1 : ¬ nI n ≤ x) : ∃ k : Nat, k < n ∧ x = nI k := by
  have e0 : (0 : Int32).toInt = 0 := by decide
  have h2 : (0 : Int) ≤ x.toInt := by
    have h9 : ¬ x.toInt < (0 : Int32).toInt := fun h9 => h0 (Int32.lt_iff_toInt_lt.mpr h9)
    omega
  have h3 : x.toInt < n := by
    have h9 : ¬ (nI n).toInt ≤ x.toInt := fun h9 => h1 (Int32.le_iff_toInt_le.mpr h9)
    rw [nI_toInt hn] at h9
    omega
  refine ⟨x.toInt.toNat, by omega, ?_⟩
  apply Int32.toInt.inj
  rw [nI_toInt (by omega)]
  omega
theorem f_nn {k : Nat} (h : k < 2 ^ 31) : ¬ nI k < 0 := fun h9 => absurd ((nI_ltI (a := k) (b := 0) h (by decide)).mp h9) (by omega)
theorem f_isKind_or (x : Int32) : f_isKind x = 0 ∨ ∃ k : Nat, k < 8 ∧ x = nI k := by
  unfold f_isKind
  by_cases h : x < 0
  · left; rw [if_pos h]
  · rw [if_neg h]
    by_cases h1 : 8 ≤ x
    · left; rw [if_pos h1]
    · right; exact f_range (n := 8) (by decide) h h1
theorem f_isKind_nI {k : Nat} (h : k < 8) : f_isKind (nI k) = 1 := by
  have h1 : ¬ (8 ≤ nI k) := fun h9 => absurd ((nI_leI (a := 8) (b := k) (by decide) (by omega)).mp h9) (by omega)
  unfold f_isKind
  rw [if_neg (f_nn (by omega)), if_neg h1]
theorem f_isDesk_or (x : Int32) : f_isDesk x = 0 ∨ x = 0 ∨ x = 1 := by
  unfold f_isDesk
  by_cases h : x = 0
  · exact Or.inr (Or.inl h)
  · by_cases h1 : x = 1
    · exact Or.inr (Or.inr h1)
    · left; rw [if_neg h, if_neg h1]
def f_anA (an : Nat → Int64) (x : Int32) (v : Int64) : Nat → Int64 := if f_isPart x = 0 then an else vp_updL an x.toNatClampNeg v
def f_fok (x g : Int32) : Int32 := if f_isPart x = 0 then 0 else if g < 0 then 0 else if g ≤ 5 then 1 else 0
def f_flF (fl : Nat → Int32) (x g : Int32) : Nat → Int32 := if f_fok x g = 0 then fl else upd fl x.toNatClampNeg g
def f_dr (md : Nat → Int32) (kn : Nat → Int64) (x n : Int32) : Int32 := if f_isKind x = 0 then 0 else f_isKnown md kn x.toNatClampNeg n
def f_drK (md : Nat → Int32) (kn : Nat → Int64) (x n : Int32) : Nat → Int64 := if f_dr md kn x n = 0 then kn else vp_updL kn x.toNatClampNeg (kn x.toNatClampNeg &&& (f_bit n ^^^ (-1)))
def f_nb (kn : Nat → Int64) (x : Int32) : Int32 := if f_isKind x = 0 then -1 else nI (bc (f_nat (kn x.toNatClampNeg)) 64)
theorem f_known1 {md : Nat → Int32} {kn : Nat → Int64} {k : Nat} {n : Int32} (h : ¬ f_isKnown md kn k n = 0) : f_isKnown md kn k n = 1 := by
  unfold f_isKnown at h ⊢
  by_cases h1 : f_wasMade md k n = 0
  · rw [if_pos h1] at h; exact absurd rfl h
  · rw [if_neg h1] at h ⊢
    by_cases h2 : lg_cmp (kn k &&& f_bit n) 0 = 0
    · rw [if_pos h2] at h; exact absurd rfl h
    · rw [if_neg h2]
/-- what can be collected: the what, as a number; 4 if not -/
def f_cc (sz : Nat → Int32) (x : Int32) (v : Int64) : Nat := if x < 0 then 4 else if 4 ≤ x then 4 else if f_can x.toNatClampNeg v = 0 then 4 else if f_cfull sz x.toNatClampNeg = 0 then x.toNatClampNeg else 4
def f_coR (sz : Nat → Int32) (x : Int32) (v : Int64) : Int32 := if f_cc sz x v = 4 then -1 else sz (f_cc sz x v) + 1
def f_coZ (sz : Nat → Int32) (x : Int32) (v : Int64) : Nat → Int32 := if f_cc sz x v = 4 then sz else upd sz (f_cc sz x v) (sz (f_cc sz x v) + 1)
def f_coV (sz : Nat → Int32) (vs : Nat → Nat → Int64) (x : Int32) (v : Int64) : Nat → Nat → Int64 := if f_cc sz x v = 4 then vs else f_up vs (f_cc sz x v) (sz (f_cc sz x v)).toNatClampNeg v
def f_coM (md sz : Nat → Int32) (x : Int32) (v : Int64) : Nat → Int32 := if f_cc sz x v = 3 then f_tM md v.toInt32.toNatClampNeg else md
def f_coK (md : Nat → Int32) (kn : Nat → Int64) (sz : Nat → Int32) (x : Int32) (v : Int64) : Nat → Int64 := if f_cc sz x v = 3 then f_tK md kn v.toInt32.toNatClampNeg else kn
theorem f_can3_j {v : Int64} (h : ¬ f_can3 v = 0) : ∃ j : Nat, j < 8 ∧ v.toInt32 = nI j := by
  unfold f_can3 at h
  by_cases h1 : lg_cmp v 0 < 0
  · rw [if_pos h1] at h; exact absurd rfl h
  · rw [if_neg h1] at h
    by_cases h2 : 0 ≤ lg_cmp v 8
    · rw [if_pos h2] at h; exact absurd rfl h
    · have g1 : ¬ v < 0 := fun h9 => h1 (by
        unfold lg_cmp
        rw [if_neg (fun h8 => absurd (Int64.lt_trans h8 h9) Int64.lt_irrefl), if_neg (fun h8 => by rw [h8] at h9; exact absurd h9 Int64.lt_irrefl)]
        decide)
      have g2 : v < 8 := by
        unfold lg_cmp at h2
        by_cases h3 : 8 < v
        · rw [if_pos h3] at h2; exact absurd (by decide) h2
        · rw [if_neg h3] at h2
          by_cases h4 : v = 8
          · rw [if_pos h4] at h2; exact absurd (by decide) h2
          · rw [Int64.lt_iff_toInt_lt] at h3 ⊢
            have h5 : ¬ v.toInt = (8 : Int64).toInt := fun h9 => h4 (Int64.toInt.inj h9)
            omega
      have e0 : (0 : Int64).toInt = 0 := by decide
      have e8 : (8 : Int64).toInt = 8 := by decide
      rw [Int64.lt_iff_toInt_lt] at g1 g2
      refine ⟨v.toInt.toNat, by omega, ?_⟩
      have hv : v = Int64.ofNat v.toInt.toNat := by
        apply Int64.toInt.inj
        rw [Int64.toInt_ofNat_of_lt (by omega)]
        omega
      have key : ∀ j : Nat, j < 8 → (Int64.ofNat j).toInt32 = nI j := by decide
      exact (congrArg Int64.toInt32 hv).trans (key _ (by omega))
abbrev rm_PD_answer : Room := { frames := 1, cells := 0, slots := 0, locals := 23 }
set_option maxHeartbeats 4000000 in
set_option maxRecDepth 100000 in
theorem k_PD_answer (l : Launch) (dC : Nat → ClassId) (dI : Nat → Nat → Nat) (cI cJ cG cZ : ClassId) (o0 : Nat) (a0 : Nat) (a1 : Nat) (a2 : Nat) (a3 : Nat) (a4 : Nat) (a5 : Nat) (b0 : Nat) (b1 : Nat) (b2 : Nat) (b3 : Nat) (b4 : Nat) (b5 : Nat) (p1 : Nat) (p2 : Nat) (p3 : Nat) (y1 : Nat) (y2 : Nat) (y3 : Nat) (an : Nat → Int64) (sm : Nat → Int64) (xsm : Nat → Int64) (fl : Nat → Int32) (xfl : Nat → Int32) (x : Int32) (v : Int64) : k_M l yPD_answer wsPD_answer rm_PD_answer (dC, dI) vwCl [(cI, .int), (cJ, .long), (cG, .array .long), (cZ, .boolean)] [.ref o0, .int x, .long v] [(o0, .inr (6, [.ref a0, .ref b0])), (a0, .inr (1, [.ref a1, .ref a2, .ref a3, .ref a4, .ref a5])), (b0, .inr (1, [.ref b1, .ref b2, .ref b3, .ref b4, .ref b5])), (a2, .inr (4, [.ref p1, .ref p2, .ref p3])), (p1, .inl (cJ, 12, .inr (.inl an))), (p2, .inl (cJ, 12, .inr (.inl sm))), (p3, .inl (cI, 12, .inl fl)), (b2, .inr (4, [.ref y1, .ref y2, .ref y3])), (y1, .inl (cJ, 12, .inr (.inl an))), (y2, .inl (cJ, 12, .inr (.inl xsm))), (y3, .inl (cI, 12, .inl xfl))] (some (.int (f_isPart x))) [(o0, .inr (6, [.ref a0, .ref b0])), (a0, .inr (1, [.ref a1, .ref a2, .ref a3, .ref a4, .ref a5])), (b0, .inr (1, [.ref b1, .ref b2, .ref b3, .ref b4, .ref b5])), (a2, .inr (4, [.ref p1, .ref p2, .ref p3])), (p1, .inl (cJ, 12, .inr (.inl (f_anA an x v)))), (p2, .inl (cJ, 12, .inr (.inl sm))), (p3, .inl (cI, 12, .inl fl)), (b2, .inr (4, [.ref y1, .ref y2, .ref y3])), (y1, .inl (cJ, 12, .inr (.inl (f_anA an x v)))), (y2, .inl (cJ, 12, .inr (.inl xsm))), (y3, .inl (cI, 12, .inl xfl))] := by
  rcases f_isPart_or x with h0 | ⟨k, hk, rfl⟩
  · rw [show f_anA an x v = an from if_pos h0, h0]
    refine k_of (cc := cPD_answer) (maxL := 4) (ret := (some .boolean)) (by decide) rfl (Nat.le_of_ble_eq_true rfl) ?_
    intro p e s m below meth c A ls hx hb hr hlocks hml hown hts hA hP hD hK hF hl hS
    have hown : s.vm.findClass RPD = some m.cls := hown
    have hl : lv_has ls 4 [(0, .ref o0), (1, .int x), (2, .long v)] := hl
    refine lv_iload_n hx hb dPD_answer_0 rfl (lv_at hl 1 rfl) ?_
    refine k_S (wr := [(o0, .inr (6, [.ref a0, .ref b0])), (a0, .inr (1, [.ref a1, .ref a2, .ref a3, .ref a4, .ref a5])), (b0, .inr (1, [.ref b1, .ref b2, .ref b3, .ref b4, .ref b5])), (a2, .inr (4, [.ref p1, .ref p2, .ref p3])), (p1, .inl (cJ, 12, .inr (.inl an))), (p2, .inl (cJ, 12, .inr (.inl sm))), (p3, .inl (cI, 12, .inl fl)), (b2, .inr (4, [.ref y1, .ref y2, .ref y3])), (y1, .inl (cJ, 12, .inr (.inl an))), (y2, .inl (cJ, 12, .inr (.inl xsm))), (y3, .inl (cI, 12, .inl xfl))]) (W1 := [(o0, .inr (6, [.ref a0, .ref b0])), (a0, .inr (1, [.ref a1, .ref a2, .ref a3, .ref a4, .ref a5])), (b0, .inr (1, [.ref b1, .ref b2, .ref b3, .ref b4, .ref b5])), (a2, .inr (4, [.ref p1, .ref p2, .ref p3])), (p1, .inl (cJ, 12, .inr (.inl an))), (p2, .inl (cJ, 12, .inr (.inl sm))), (p3, .inl (cI, 12, .inl fl)), (b2, .inr (4, [.ref y1, .ref y2, .ref y3])), (y1, .inl (cJ, 12, .inr (.inl an))), (y2, .inl (cJ, 12, .inr (.inl xsm))), (y3, .inl (cI, 12, .inl xfl))]) (st1 := [.int (f_isPart x)]) ⟨hx, hb, hml, hown, hts⟩ (k_PD_isPart l dC dI cI cJ cG cZ x) (va_cwS 1 hts (k_gS m_l_PD_37 m_st_PD_isPart m_in_PD m_c_PD_isPart) rfl rfl rfl (by decide +kernel) ⟨Nat.le_of_ble_eq_true rfl, Nat.le_of_ble_eq_true rfl⟩) hK hF hP hD hS hA [] [0, 1, 2, 3, 4, 5, 6, 7, 8, 9, 10] [0, 1, 2, 3, 4, 5, 6, 7, 8, 9, 10] rfl rfl (by decide) (by decide) (by decide) rfl (by decide) rfl hl.1 rfl (Nat.le_of_ble_eq_true rfl) dPD_answer_1 ⟨Nat.le_of_ble_eq_true rfl, Nat.le_of_ble_eq_true rfl⟩ rfl (fun H locs hP hD hS => ?_)
    refine lv_if_ne (tgt := 9) hx hb dPD_answer_4 (by decide) (fun c_1 => ?_) (fun c_1 => ?_)
    · exact absurd h0 c_1
    · refine lv_iconst (v := 0) hx hb dPD_answer_7 (by decide) ?_
      exact k_zret hx hb hr hlocks rfl hP hK hD hS rfl dPD_answer_8 ⟨Nat.le_of_ble_eq_true rfl, Nat.le_of_ble_eq_true rfl⟩
  · rw [show f_anA an (nI k) v = vp_updL an k v by unfold f_anA; rw [if_neg (by rw [f_isPart_nI hk]; decide), nI_clamp (by omega)], f_isPart_nI hk]
    refine k_of (cc := cPD_answer) (maxL := 4) (ret := (some .boolean)) (by decide) rfl (Nat.le_of_ble_eq_true rfl) ?_
    intro p e s m below meth c A ls hx hb hr hlocks hml hown hts hA hP hD hK hF hl hS
    have hown : s.vm.findClass RPD = some m.cls := hown
    have hl : lv_has ls 4 [(0, .ref o0), (1, .int (nI k)), (2, .long v)] := hl
    refine lv_iload_n hx hb dPD_answer_0 rfl (lv_at hl 1 rfl) ?_
    refine k_S (wr := [(o0, .inr (6, [.ref a0, .ref b0])), (a0, .inr (1, [.ref a1, .ref a2, .ref a3, .ref a4, .ref a5])), (b0, .inr (1, [.ref b1, .ref b2, .ref b3, .ref b4, .ref b5])), (a2, .inr (4, [.ref p1, .ref p2, .ref p3])), (p1, .inl (cJ, 12, .inr (.inl an))), (p2, .inl (cJ, 12, .inr (.inl sm))), (p3, .inl (cI, 12, .inl fl)), (b2, .inr (4, [.ref y1, .ref y2, .ref y3])), (y1, .inl (cJ, 12, .inr (.inl an))), (y2, .inl (cJ, 12, .inr (.inl xsm))), (y3, .inl (cI, 12, .inl xfl))]) (W1 := [(o0, .inr (6, [.ref a0, .ref b0])), (a0, .inr (1, [.ref a1, .ref a2, .ref a3, .ref a4, .ref a5])), (b0, .inr (1, [.ref b1, .ref b2, .ref b3, .ref b4, .ref b5])), (a2, .inr (4, [.ref p1, .ref p2, .ref p3])), (p1, .inl (cJ, 12, .inr (.inl an))), (p2, .inl (cJ, 12, .inr (.inl sm))), (p3, .inl (cI, 12, .inl fl)), (b2, .inr (4, [.ref y1, .ref y2, .ref y3])), (y1, .inl (cJ, 12, .inr (.inl an))), (y2, .inl (cJ, 12, .inr (.inl xsm))), (y3, .inl (cI, 12, .inl xfl))]) (st1 := [.int (f_isPart (nI k))]) ⟨hx, hb, hml, hown, hts⟩ (k_PD_isPart l dC dI cI cJ cG cZ (nI k)) (va_cwS 1 hts (k_gS m_l_PD_37 m_st_PD_isPart m_in_PD m_c_PD_isPart) rfl rfl rfl (by decide +kernel) ⟨Nat.le_of_ble_eq_true rfl, Nat.le_of_ble_eq_true rfl⟩) hK hF hP hD hS hA [] [0, 1, 2, 3, 4, 5, 6, 7, 8, 9, 10] [0, 1, 2, 3, 4, 5, 6, 7, 8, 9, 10] rfl rfl (by decide) (by decide) (by decide) rfl (by decide) rfl hl.1 rfl (Nat.le_of_ble_eq_true rfl) dPD_answer_1 ⟨Nat.le_of_ble_eq_true rfl, Nat.le_of_ble_eq_true rfl⟩ rfl (fun H locs hP hD hS => ?_)
    refine lv_if_ne (tgt := 9) hx hb dPD_answer_4 (by decide) (fun c_1 => ?_) (fun c_1 => ?_)
    · refine lv_aload_n hx hb dPD_answer_9 rfl (lv_at hl 0 rfl) ?_
      refine va_get (D := (dC, dI)) (ci := 6) (v := .ref a0) (C := RPD) (T := TPD) (N := 2) hx hb hts inPD hown hK hP 0 rfl rfl 0 (by decide) (hts _ m_f_PD_10) (fun _ h9 => h9) rfl dPD_answer_10 ?_
      refine va_get (D := (dC, dI)) (ci := 1) (v := .ref a2) (C := RDK) (T := TDK) (N := 5) hx hb hts inDK hown hK hP 1 rfl rfl 1 (by decide) (hts _ m_f_PD_40) (fun _ h9 => h9) rfl dPD_answer_13 ?_
      refine lv_iload_n hx hb dPD_answer_16 rfl (lv_at hl 1 rfl) ?_
      refine lv_lload_n hx hb dPD_answer_17 rfl (lv_at hl 2 rfl) ?_
      refine k_V (wr := [(o0, .inr (6, [.ref a0, .ref b0])), (a0, .inr (1, [.ref a1, .ref a2, .ref a3, .ref a4, .ref a5])), (b0, .inr (1, [.ref b1, .ref b2, .ref b3, .ref b4, .ref b5])), (b2, .inr (4, [.ref y1, .ref y2, .ref y3])), (y1, .inl (cJ, 12, .inr (.inl an))), (y2, .inl (cJ, 12, .inr (.inl xsm))), (y3, .inl (cI, 12, .inl xfl))]) (W1 := [(o0, .inr (6, [.ref a0, .ref b0])), (a0, .inr (1, [.ref a1, .ref a2, .ref a3, .ref a4, .ref a5])), (b0, .inr (1, [.ref b1, .ref b2, .ref b3, .ref b4, .ref b5])), (a2, .inr (4, [.ref p1, .ref p2, .ref p3])), (p1, .inl (cJ, 12, .inr (.inl (vp_updL an k v)))), (p2, .inl (cJ, 12, .inr (.inl sm))), (p3, .inl (cI, 12, .inl fl)), (b2, .inr (4, [.ref y1, .ref y2, .ref y3])), (y1, .inl (cJ, 12, .inr (.inl an))), (y2, .inl (cJ, 12, .inr (.inl xsm))), (y3, .inl (cI, 12, .inl xfl))]) (st1 := []) ⟨hx, hb, hml, hown, hts⟩ (k_PT_setAnswer l dC dI cI cJ cG cZ a2 p1 p2 p3 an sm fl k v hk) (cwV 2 hts (k_gV m_l_PD_44 m_i_PT_setAnswer m_s_PT_setAnswer m_in_PT m_c_PT_setAnswer) rfl rfl rfl (by decide +kernel) ⟨Nat.le_of_ble_eq_true rfl, Nat.le_of_ble_eq_true rfl⟩) hK hF hP hD hS hA [3, 4, 5, 6] [0, 1, 2, 7, 8, 9, 10] [0, 1, 2, 7, 8, 9, 10, 3, 4, 5, 6] rfl rfl (by decide) (by decide) (by decide) rfl (by decide) rfl rfl rfl rfl hl.1 rfl (Nat.le_of_ble_eq_true rfl) dPD_answer_18 ⟨Nat.le_of_ble_eq_true rfl, Nat.le_of_ble_eq_true rfl⟩ rfl (fun H locs hP hD hS => ?_)
      refine lv_aload_n hx hb dPD_answer_21 rfl (lv_at hl 0 rfl) ?_
      refine va_get (D := (dC, dI)) (ci := 6) (v := .ref b0) (C := RPD) (T := TPD) (N := 2) hx hb hts inPD hown hK hP 0 rfl rfl 1 (by decide) (hts _ m_f_PD_16) (fun _ h9 => h9) rfl dPD_answer_22 ?_
      refine va_get (D := (dC, dI)) (ci := 1) (v := .ref b2) (C := RDK) (T := TDK) (N := 5) hx hb hts inDK hown hK hP 2 rfl rfl 1 (by decide) (hts _ m_f_PD_40) (fun _ h9 => h9) rfl dPD_answer_25 ?_
      refine lv_iload_n hx hb dPD_answer_28 rfl (lv_at hl 1 rfl) ?_
      refine lv_lload_n hx hb dPD_answer_29 rfl (lv_at hl 2 rfl) ?_
      refine k_V (wr := [(o0, .inr (6, [.ref a0, .ref b0])), (a0, .inr (1, [.ref a1, .ref a2, .ref a3, .ref a4, .ref a5])), (b0, .inr (1, [.ref b1, .ref b2, .ref b3, .ref b4, .ref b5])), (a2, .inr (4, [.ref p1, .ref p2, .ref p3])), (p1, .inl (cJ, 12, .inr (.inl (vp_updL an k v)))), (p2, .inl (cJ, 12, .inr (.inl sm))), (p3, .inl (cI, 12, .inl fl))]) (W1 := [(o0, .inr (6, [.ref a0, .ref b0])), (a0, .inr (1, [.ref a1, .ref a2, .ref a3, .ref a4, .ref a5])), (b0, .inr (1, [.ref b1, .ref b2, .ref b3, .ref b4, .ref b5])), (a2, .inr (4, [.ref p1, .ref p2, .ref p3])), (p1, .inl (cJ, 12, .inr (.inl (vp_updL an k v)))), (p2, .inl (cJ, 12, .inr (.inl sm))), (p3, .inl (cI, 12, .inl fl)), (b2, .inr (4, [.ref y1, .ref y2, .ref y3])), (y1, .inl (cJ, 12, .inr (.inl (vp_updL an k v)))), (y2, .inl (cJ, 12, .inr (.inl xsm))), (y3, .inl (cI, 12, .inl xfl))]) (st1 := []) ⟨hx, hb, hml, hown, hts⟩ (k_PT_setAnswer l dC dI cI cJ cG cZ b2 y1 y2 y3 an xsm xfl k v hk) (cwV 2 hts (k_gV m_l_PD_44 m_i_PT_setAnswer m_s_PT_setAnswer m_in_PT m_c_PT_setAnswer) rfl rfl rfl (by decide +kernel) ⟨Nat.le_of_ble_eq_true rfl, Nat.le_of_ble_eq_true rfl⟩) hK hF hP hD hS hA [7, 8, 9, 10] [0, 1, 2, 3, 4, 5, 6] [0, 1, 2, 3, 4, 5, 6, 7, 8, 9, 10] rfl rfl (by decide) (by decide) (by decide) rfl (by decide) rfl rfl rfl rfl hl.1 rfl (Nat.le_of_ble_eq_true rfl) dPD_answer_30 ⟨Nat.le_of_ble_eq_true rfl, Nat.le_of_ble_eq_true rfl⟩ rfl (fun H locs hP hD hS => ?_)
      refine lv_iconst (v := 1) hx hb dPD_answer_33 (by decide) ?_
      exact k_zret hx hb hr hlocks rfl hP hK hD hS rfl dPD_answer_34 ⟨Nat.le_of_ble_eq_true rfl, Nat.le_of_ble_eq_true rfl⟩
    · exact absurd c_1 (by rw [f_isPart_nI hk]; decide)

abbrev rm_PD_fails : Room := { frames := 1, cells := 0, slots := 0, locals := 22 }
set_option maxHeartbeats 4000000 in
set_option maxRecDepth 100000 in
theorem k_PD_fails (l : Launch) (dC : Nat → ClassId) (dI : Nat → Nat → Nat) (cI cJ cG cZ : ClassId) (o0 : Nat) (a0 : Nat) (a1 : Nat) (a2 : Nat) (a3 : Nat) (a4 : Nat) (a5 : Nat) (b0 : Nat) (b1 : Nat) (b2 : Nat) (b3 : Nat) (b4 : Nat) (b5 : Nat) (p1 : Nat) (p2 : Nat) (p3 : Nat) (y1 : Nat) (y2 : Nat) (y3 : Nat) (an : Nat → Int64) (sm : Nat → Int64) (xsm : Nat → Int64) (fl : Nat → Int32) (xfl : Nat → Int32) (x : Int32) (g : Int32) : k_M l yPD_fails wsPD_fails rm_PD_fails (dC, dI) vwCl [(cI, .int), (cJ, .long), (cG, .array .long), (cZ, .boolean)] [.ref o0, .int x, .int g] [(o0, .inr (6, [.ref a0, .ref b0])), (a0, .inr (1, [.ref a1, .ref a2, .ref a3, .ref a4, .ref a5])), (b0, .inr (1, [.ref b1, .ref b2, .ref b3, .ref b4, .ref b5])), (a2, .inr (4, [.ref p1, .ref p2, .ref p3])), (p1, .inl (cJ, 12, .inr (.inl an))), (p2, .inl (cJ, 12, .inr (.inl sm))), (p3, .inl (cI, 12, .inl fl)), (b2, .inr (4, [.ref y1, .ref y2, .ref y3])), (y1, .inl (cJ, 12, .inr (.inl an))), (y2, .inl (cJ, 12, .inr (.inl xsm))), (y3, .inl (cI, 12, .inl xfl))] (some (.int (f_fok x g))) [(o0, .inr (6, [.ref a0, .ref b0])), (a0, .inr (1, [.ref a1, .ref a2, .ref a3, .ref a4, .ref a5])), (b0, .inr (1, [.ref b1, .ref b2, .ref b3, .ref b4, .ref b5])), (a2, .inr (4, [.ref p1, .ref p2, .ref p3])), (p1, .inl (cJ, 12, .inr (.inl an))), (p2, .inl (cJ, 12, .inr (.inl sm))), (p3, .inl (cI, 12, .inl (f_flF fl x g))), (b2, .inr (4, [.ref y1, .ref y2, .ref y3])), (y1, .inl (cJ, 12, .inr (.inl an))), (y2, .inl (cJ, 12, .inr (.inl xsm))), (y3, .inl (cI, 12, .inl (f_flF xfl x g)))] := by
  rcases (show f_isPart x = 0 ∨ (∃ k : Nat, k < 12 ∧ x = nI k ∧ g < 0) ∨ (∃ k : Nat, k < 12 ∧ x = nI k ∧ ¬ g < 0 ∧ ¬ g ≤ 5) ∨ (∃ k : Nat, k < 12 ∧ x = nI k ∧ ¬ g < 0 ∧ g ≤ 5) by rcases f_isPart_or x with h | ⟨k, hk, h⟩; exact Or.inl h; by_cases h1 : g < 0; exact Or.inr (Or.inl ⟨k, hk, h, h1⟩); by_cases h2 : g ≤ 5; exact Or.inr (Or.inr (Or.inr ⟨k, hk, h, h1, h2⟩)); exact Or.inr (Or.inr (Or.inl ⟨k, hk, h, h1, h2⟩))) with h0 | ⟨k, hk, rfl, h1⟩ | ⟨k, hk, rfl, h1, h2⟩ | ⟨k, hk, rfl, h1, h2⟩
  · have e1 : f_fok x g = 0 := by unfold f_fok; rw [if_pos h0]
    rw [show f_flF fl x g = fl from if_pos e1, show f_flF xfl x g = xfl from if_pos e1, e1]
    refine k_of (cc := cPD_fails) (maxL := 3) (ret := (some .boolean)) (by decide) rfl (Nat.le_of_ble_eq_true rfl) ?_
    intro p e s m below meth c A ls hx hb hr hlocks hml hown hts hA hP hD hK hF hl hS
    have hown : s.vm.findClass RPD = some m.cls := hown
    have hl : lv_has ls 3 [(0, .ref o0), (1, .int x), (2, .int g)] := hl
    refine lv_iload_n hx hb dPD_fails_0 rfl (lv_at hl 1 rfl) ?_
    refine k_S (wr := [(o0, .inr (6, [.ref a0, .ref b0])), (a0, .inr (1, [.ref a1, .ref a2, .ref a3, .ref a4, .ref a5])), (b0, .inr (1, [.ref b1, .ref b2, .ref b3, .ref b4, .ref b5])), (a2, .inr (4, [.ref p1, .ref p2, .ref p3])), (p1, .inl (cJ, 12, .inr (.inl an))), (p2, .inl (cJ, 12, .inr (.inl sm))), (p3, .inl (cI, 12, .inl fl)), (b2, .inr (4, [.ref y1, .ref y2, .ref y3])), (y1, .inl (cJ, 12, .inr (.inl an))), (y2, .inl (cJ, 12, .inr (.inl xsm))), (y3, .inl (cI, 12, .inl xfl))]) (W1 := [(o0, .inr (6, [.ref a0, .ref b0])), (a0, .inr (1, [.ref a1, .ref a2, .ref a3, .ref a4, .ref a5])), (b0, .inr (1, [.ref b1, .ref b2, .ref b3, .ref b4, .ref b5])), (a2, .inr (4, [.ref p1, .ref p2, .ref p3])), (p1, .inl (cJ, 12, .inr (.inl an))), (p2, .inl (cJ, 12, .inr (.inl sm))), (p3, .inl (cI, 12, .inl fl)), (b2, .inr (4, [.ref y1, .ref y2, .ref y3])), (y1, .inl (cJ, 12, .inr (.inl an))), (y2, .inl (cJ, 12, .inr (.inl xsm))), (y3, .inl (cI, 12, .inl xfl))]) (st1 := [.int (f_isPart x)]) ⟨hx, hb, hml, hown, hts⟩ (k_PD_isPart l dC dI cI cJ cG cZ x) (va_cwS 1 hts (k_gS m_l_PD_37 m_st_PD_isPart m_in_PD m_c_PD_isPart) rfl rfl rfl (by decide +kernel) ⟨Nat.le_of_ble_eq_true rfl, Nat.le_of_ble_eq_true rfl⟩) hK hF hP hD hS hA [] [0, 1, 2, 3, 4, 5, 6, 7, 8, 9, 10] [0, 1, 2, 3, 4, 5, 6, 7, 8, 9, 10] rfl rfl (by decide) (by decide) (by decide) rfl (by decide) rfl hl.1 rfl (Nat.le_of_ble_eq_true rfl) dPD_fails_1 ⟨Nat.le_of_ble_eq_true rfl, Nat.le_of_ble_eq_true rfl⟩ rfl (fun H locs hP hD hS => ?_)
    refine lv_if_eq (tgt := 16) hx hb dPD_fails_4 (by decide) (fun c_1 => ?_) (fun c_1 => ?_)
    · refine lv_iconst (v := 0) hx hb dPD_fails_16 (by decide) ?_
      exact k_zret hx hb hr hlocks rfl hP hK hD hS rfl dPD_fails_17 ⟨Nat.le_of_ble_eq_true rfl, Nat.le_of_ble_eq_true rfl⟩
    · exact absurd h0 c_1
  · have e1 : f_fok (nI k) g = 0 := by unfold f_fok; rw [if_neg (by rw [f_isPart_nI hk]; decide), if_pos h1]
    rw [show f_flF fl (nI k) g = fl from if_pos e1, show f_flF xfl (nI k) g = xfl from if_pos e1, e1]
    refine k_of (cc := cPD_fails) (maxL := 3) (ret := (some .boolean)) (by decide) rfl (Nat.le_of_ble_eq_true rfl) ?_
    intro p e s m below meth c A ls hx hb hr hlocks hml hown hts hA hP hD hK hF hl hS
    have hown : s.vm.findClass RPD = some m.cls := hown
    have hl : lv_has ls 3 [(0, .ref o0), (1, .int (nI k)), (2, .int g)] := hl
    refine lv_iload_n hx hb dPD_fails_0 rfl (lv_at hl 1 rfl) ?_
    refine k_S (wr := [(o0, .inr (6, [.ref a0, .ref b0])), (a0, .inr (1, [.ref a1, .ref a2, .ref a3, .ref a4, .ref a5])), (b0, .inr (1, [.ref b1, .ref b2, .ref b3, .ref b4, .ref b5])), (a2, .inr (4, [.ref p1, .ref p2, .ref p3])), (p1, .inl (cJ, 12, .inr (.inl an))), (p2, .inl (cJ, 12, .inr (.inl sm))), (p3, .inl (cI, 12, .inl fl)), (b2, .inr (4, [.ref y1, .ref y2, .ref y3])), (y1, .inl (cJ, 12, .inr (.inl an))), (y2, .inl (cJ, 12, .inr (.inl xsm))), (y3, .inl (cI, 12, .inl xfl))]) (W1 := [(o0, .inr (6, [.ref a0, .ref b0])), (a0, .inr (1, [.ref a1, .ref a2, .ref a3, .ref a4, .ref a5])), (b0, .inr (1, [.ref b1, .ref b2, .ref b3, .ref b4, .ref b5])), (a2, .inr (4, [.ref p1, .ref p2, .ref p3])), (p1, .inl (cJ, 12, .inr (.inl an))), (p2, .inl (cJ, 12, .inr (.inl sm))), (p3, .inl (cI, 12, .inl fl)), (b2, .inr (4, [.ref y1, .ref y2, .ref y3])), (y1, .inl (cJ, 12, .inr (.inl an))), (y2, .inl (cJ, 12, .inr (.inl xsm))), (y3, .inl (cI, 12, .inl xfl))]) (st1 := [.int (f_isPart (nI k))]) ⟨hx, hb, hml, hown, hts⟩ (k_PD_isPart l dC dI cI cJ cG cZ (nI k)) (va_cwS 1 hts (k_gS m_l_PD_37 m_st_PD_isPart m_in_PD m_c_PD_isPart) rfl rfl rfl (by decide +kernel) ⟨Nat.le_of_ble_eq_true rfl, Nat.le_of_ble_eq_true rfl⟩) hK hF hP hD hS hA [] [0, 1, 2, 3, 4, 5, 6, 7, 8, 9, 10] [0, 1, 2, 3, 4, 5, 6, 7, 8, 9, 10] rfl rfl (by decide) (by decide) (by decide) rfl (by decide) rfl hl.1 rfl (Nat.le_of_ble_eq_true rfl) dPD_fails_1 ⟨Nat.le_of_ble_eq_true rfl, Nat.le_of_ble_eq_true rfl⟩ rfl (fun H locs hP hD hS => ?_)
    refine lv_if_eq (tgt := 16) hx hb dPD_fails_4 (by decide) (fun c_1 => ?_) (fun c_1 => ?_)
    · exact absurd c_1 (by rw [f_isPart_nI hk]; decide)
    · refine lv_iload_n hx hb dPD_fails_7 rfl (lv_at hl 2 rfl) ?_
      refine lv_if_lt (tgt := 16) hx hb dPD_fails_8 (by decide) (fun c_2 => ?_) (fun c_2 => ?_)
      · refine lv_iconst (v := 0) hx hb dPD_fails_16 (by decide) ?_
        exact k_zret hx hb hr hlocks rfl hP hK hD hS rfl dPD_fails_17 ⟨Nat.le_of_ble_eq_true rfl, Nat.le_of_ble_eq_true rfl⟩
      · exact absurd h1 c_2
  · have e1 : f_fok (nI k) g = 0 := by unfold f_fok; rw [if_neg (by rw [f_isPart_nI hk]; decide), if_neg h1, if_neg h2]
    rw [show f_flF fl (nI k) g = fl from if_pos e1, show f_flF xfl (nI k) g = xfl from if_pos e1, e1]
    refine k_of (cc := cPD_fails) (maxL := 3) (ret := (some .boolean)) (by decide) rfl (Nat.le_of_ble_eq_true rfl) ?_
    intro p e s m below meth c A ls hx hb hr hlocks hml hown hts hA hP hD hK hF hl hS
    have hown : s.vm.findClass RPD = some m.cls := hown
    have hl : lv_has ls 3 [(0, .ref o0), (1, .int (nI k)), (2, .int g)] := hl
    refine lv_iload_n hx hb dPD_fails_0 rfl (lv_at hl 1 rfl) ?_
    refine k_S (wr := [(o0, .inr (6, [.ref a0, .ref b0])), (a0, .inr (1, [.ref a1, .ref a2, .ref a3, .ref a4, .ref a5])), (b0, .inr (1, [.ref b1, .ref b2, .ref b3, .ref b4, .ref b5])), (a2, .inr (4, [.ref p1, .ref p2, .ref p3])), (p1, .inl (cJ, 12, .inr (.inl an))), (p2, .inl (cJ, 12, .inr (.inl sm))), (p3, .inl (cI, 12, .inl fl)), (b2, .inr (4, [.ref y1, .ref y2, .ref y3])), (y1, .inl (cJ, 12, .inr (.inl an))), (y2, .inl (cJ, 12, .inr (.inl xsm))), (y3, .inl (cI, 12, .inl xfl))]) (W1 := [(o0, .inr (6, [.ref a0, .ref b0])), (a0, .inr (1, [.ref a1, .ref a2, .ref a3, .ref a4, .ref a5])), (b0, .inr (1, [.ref b1, .ref b2, .ref b3, .ref b4, .ref b5])), (a2, .inr (4, [.ref p1, .ref p2, .ref p3])), (p1, .inl (cJ, 12, .inr (.inl an))), (p2, .inl (cJ, 12, .inr (.inl sm))), (p3, .inl (cI, 12, .inl fl)), (b2, .inr (4, [.ref y1, .ref y2, .ref y3])), (y1, .inl (cJ, 12, .inr (.inl an))), (y2, .inl (cJ, 12, .inr (.inl xsm))), (y3, .inl (cI, 12, .inl xfl))]) (st1 := [.int (f_isPart (nI k))]) ⟨hx, hb, hml, hown, hts⟩ (k_PD_isPart l dC dI cI cJ cG cZ (nI k)) (va_cwS 1 hts (k_gS m_l_PD_37 m_st_PD_isPart m_in_PD m_c_PD_isPart) rfl rfl rfl (by decide +kernel) ⟨Nat.le_of_ble_eq_true rfl, Nat.le_of_ble_eq_true rfl⟩) hK hF hP hD hS hA [] [0, 1, 2, 3, 4, 5, 6, 7, 8, 9, 10] [0, 1, 2, 3, 4, 5, 6, 7, 8, 9, 10] rfl rfl (by decide) (by decide) (by decide) rfl (by decide) rfl hl.1 rfl (Nat.le_of_ble_eq_true rfl) dPD_fails_1 ⟨Nat.le_of_ble_eq_true rfl, Nat.le_of_ble_eq_true rfl⟩ rfl (fun H locs hP hD hS => ?_)
    refine lv_if_eq (tgt := 16) hx hb dPD_fails_4 (by decide) (fun c_1 => ?_) (fun c_1 => ?_)
    · exact absurd c_1 (by rw [f_isPart_nI hk]; decide)
    · refine lv_iload_n hx hb dPD_fails_7 rfl (lv_at hl 2 rfl) ?_
      refine lv_if_lt (tgt := 16) hx hb dPD_fails_8 (by decide) (fun c_2 => ?_) (fun c_2 => ?_)
      · exact absurd c_2 h1
      · refine lv_iload_n hx hb dPD_fails_11 rfl (lv_at hl 2 rfl) ?_
        refine lv_iconst (v := 5) hx hb dPD_fails_12 (by decide) ?_
        refine lv_icmp_le (tgt := 18) hx hb dPD_fails_13 (by decide) (fun c_3 => ?_) (fun c_3 => ?_)
        · exact absurd c_3 h2
        · refine lv_iconst (v := 0) hx hb dPD_fails_16 (by decide) ?_
          exact k_zret hx hb hr hlocks rfl hP hK hD hS rfl dPD_fails_17 ⟨Nat.le_of_ble_eq_true rfl, Nat.le_of_ble_eq_true rfl⟩
  · have e1 : f_fok (nI k) g = 1 := by unfold f_fok; rw [if_neg (by rw [f_isPart_nI hk]; decide), if_neg h1, if_pos h2]
    have e2 : ¬ f_fok (nI k) g = 0 := by rw [e1]; decide
    rw [show f_flF fl (nI k) g = upd fl k g by unfold f_flF; rw [if_neg e2, nI_clamp (by omega)], show f_flF xfl (nI k) g = upd xfl k g by unfold f_flF; rw [if_neg e2, nI_clamp (by omega)], e1]
    refine k_of (cc := cPD_fails) (maxL := 3) (ret := (some .boolean)) (by decide) rfl (Nat.le_of_ble_eq_true rfl) ?_
    intro p e s m below meth c A ls hx hb hr hlocks hml hown hts hA hP hD hK hF hl hS
    have hown : s.vm.findClass RPD = some m.cls := hown
    have hl : lv_has ls 3 [(0, .ref o0), (1, .int (nI k)), (2, .int g)] := hl
    refine lv_iload_n hx hb dPD_fails_0 rfl (lv_at hl 1 rfl) ?_
    refine k_S (wr := [(o0, .inr (6, [.ref a0, .ref b0])), (a0, .inr (1, [.ref a1, .ref a2, .ref a3, .ref a4, .ref a5])), (b0, .inr (1, [.ref b1, .ref b2, .ref b3, .ref b4, .ref b5])), (a2, .inr (4, [.ref p1, .ref p2, .ref p3])), (p1, .inl (cJ, 12, .inr (.inl an))), (p2, .inl (cJ, 12, .inr (.inl sm))), (p3, .inl (cI, 12, .inl fl)), (b2, .inr (4, [.ref y1, .ref y2, .ref y3])), (y1, .inl (cJ, 12, .inr (.inl an))), (y2, .inl (cJ, 12, .inr (.inl xsm))), (y3, .inl (cI, 12, .inl xfl))]) (W1 := [(o0, .inr (6, [.ref a0, .ref b0])), (a0, .inr (1, [.ref a1, .ref a2, .ref a3, .ref a4, .ref a5])), (b0, .inr (1, [.ref b1, .ref b2, .ref b3, .ref b4, .ref b5])), (a2, .inr (4, [.ref p1, .ref p2, .ref p3])), (p1, .inl (cJ, 12, .inr (.inl an))), (p2, .inl (cJ, 12, .inr (.inl sm))), (p3, .inl (cI, 12, .inl fl)), (b2, .inr (4, [.ref y1, .ref y2, .ref y3])), (y1, .inl (cJ, 12, .inr (.inl an))), (y2, .inl (cJ, 12, .inr (.inl xsm))), (y3, .inl (cI, 12, .inl xfl))]) (st1 := [.int (f_isPart (nI k))]) ⟨hx, hb, hml, hown, hts⟩ (k_PD_isPart l dC dI cI cJ cG cZ (nI k)) (va_cwS 1 hts (k_gS m_l_PD_37 m_st_PD_isPart m_in_PD m_c_PD_isPart) rfl rfl rfl (by decide +kernel) ⟨Nat.le_of_ble_eq_true rfl, Nat.le_of_ble_eq_true rfl⟩) hK hF hP hD hS hA [] [0, 1, 2, 3, 4, 5, 6, 7, 8, 9, 10] [0, 1, 2, 3, 4, 5, 6, 7, 8, 9, 10] rfl rfl (by decide) (by decide) (by decide) rfl (by decide) rfl hl.1 rfl (Nat.le_of_ble_eq_true rfl) dPD_fails_1 ⟨Nat.le_of_ble_eq_true rfl, Nat.le_of_ble_eq_true rfl⟩ rfl (fun H locs hP hD hS => ?_)
    refine lv_if_eq (tgt := 16) hx hb dPD_fails_4 (by decide) (fun c_1 => ?_) (fun c_1 => ?_)
    · exact absurd c_1 (by rw [f_isPart_nI hk]; decide)
    · refine lv_iload_n hx hb dPD_fails_7 rfl (lv_at hl 2 rfl) ?_
      refine lv_if_lt (tgt := 16) hx hb dPD_fails_8 (by decide) (fun c_2 => ?_) (fun c_2 => ?_)
      · exact absurd c_2 h1
      · refine lv_iload_n hx hb dPD_fails_11 rfl (lv_at hl 2 rfl) ?_
        refine lv_iconst (v := 5) hx hb dPD_fails_12 (by decide) ?_
        refine lv_icmp_le (tgt := 18) hx hb dPD_fails_13 (by decide) (fun c_3 => ?_) (fun c_3 => ?_)
        · refine lv_aload_n hx hb dPD_fails_18 rfl (lv_at hl 0 rfl) ?_
          refine va_get (D := (dC, dI)) (ci := 6) (v := .ref a0) (C := RPD) (T := TPD) (N := 2) hx hb hts inPD hown hK hP 0 rfl rfl 0 (by decide) (hts _ m_f_PD_10) (fun _ h9 => h9) rfl dPD_fails_19 ?_
          refine va_get (D := (dC, dI)) (ci := 1) (v := .ref a2) (C := RDK) (T := TDK) (N := 5) hx hb hts inDK hown hK hP 1 rfl rfl 1 (by decide) (hts _ m_f_PD_40) (fun _ h9 => h9) rfl dPD_fails_22 ?_
          refine lv_iload_n hx hb dPD_fails_25 rfl (lv_at hl 1 rfl) ?_
          refine lv_iload_n hx hb dPD_fails_26 rfl (lv_at hl 2 rfl) ?_
          refine k_V (wr := [(o0, .inr (6, [.ref a0, .ref b0])), (a0, .inr (1, [.ref a1, .ref a2, .ref a3, .ref a4, .ref a5])), (b0, .inr (1, [.ref b1, .ref b2, .ref b3, .ref b4, .ref b5])), (b2, .inr (4, [.ref y1, .ref y2, .ref y3])), (y1, .inl (cJ, 12, .inr (.inl an))), (y2, .inl (cJ, 12, .inr (.inl xsm))), (y3, .inl (cI, 12, .inl xfl))]) (W1 := [(o0, .inr (6, [.ref a0, .ref b0])), (a0, .inr (1, [.ref a1, .ref a2, .ref a3, .ref a4, .ref a5])), (b0, .inr (1, [.ref b1, .ref b2, .ref b3, .ref b4, .ref b5])), (a2, .inr (4, [.ref p1, .ref p2, .ref p3])), (p1, .inl (cJ, 12, .inr (.inl an))), (p2, .inl (cJ, 12, .inr (.inl sm))), (p3, .inl (cI, 12, .inl (upd fl k g))), (b2, .inr (4, [.ref y1, .ref y2, .ref y3])), (y1, .inl (cJ, 12, .inr (.inl an))), (y2, .inl (cJ, 12, .inr (.inl xsm))), (y3, .inl (cI, 12, .inl xfl))]) (st1 := []) ⟨hx, hb, hml, hown, hts⟩ (k_PT_setFailure l dC dI cI cJ cG cZ a2 p1 p2 p3 an sm fl k g hk) (cwV 2 hts (k_gV m_l_PD_50 m_i_PT_setFailure m_s_PT_setFailure m_in_PT m_c_PT_setFailure) rfl rfl rfl (by decide +kernel) ⟨Nat.le_of_ble_eq_true rfl, Nat.le_of_ble_eq_true rfl⟩) hK hF hP hD hS hA [3, 4, 5, 6] [0, 1, 2, 7, 8, 9, 10] [0, 1, 2, 7, 8, 9, 10, 3, 4, 5, 6] rfl rfl (by decide) (by decide) (by decide) rfl (by decide) rfl rfl rfl rfl hl.1 rfl (Nat.le_of_ble_eq_true rfl) dPD_fails_27 ⟨Nat.le_of_ble_eq_true rfl, Nat.le_of_ble_eq_true rfl⟩ rfl (fun H locs hP hD hS => ?_)
          refine lv_aload_n hx hb dPD_fails_30 rfl (lv_at hl 0 rfl) ?_
          refine va_get (D := (dC, dI)) (ci := 6) (v := .ref b0) (C := RPD) (T := TPD) (N := 2) hx hb hts inPD hown hK hP 0 rfl rfl 1 (by decide) (hts _ m_f_PD_16) (fun _ h9 => h9) rfl dPD_fails_31 ?_
          refine va_get (D := (dC, dI)) (ci := 1) (v := .ref b2) (C := RDK) (T := TDK) (N := 5) hx hb hts inDK hown hK hP 2 rfl rfl 1 (by decide) (hts _ m_f_PD_40) (fun _ h9 => h9) rfl dPD_fails_34 ?_
          refine lv_iload_n hx hb dPD_fails_37 rfl (lv_at hl 1 rfl) ?_
          refine lv_iload_n hx hb dPD_fails_38 rfl (lv_at hl 2 rfl) ?_
          refine k_V (wr := [(o0, .inr (6, [.ref a0, .ref b0])), (a0, .inr (1, [.ref a1, .ref a2, .ref a3, .ref a4, .ref a5])), (b0, .inr (1, [.ref b1, .ref b2, .ref b3, .ref b4, .ref b5])), (a2, .inr (4, [.ref p1, .ref p2, .ref p3])), (p1, .inl (cJ, 12, .inr (.inl an))), (p2, .inl (cJ, 12, .inr (.inl sm))), (p3, .inl (cI, 12, .inl (upd fl k g)))]) (W1 := [(o0, .inr (6, [.ref a0, .ref b0])), (a0, .inr (1, [.ref a1, .ref a2, .ref a3, .ref a4, .ref a5])), (b0, .inr (1, [.ref b1, .ref b2, .ref b3, .ref b4, .ref b5])), (a2, .inr (4, [.ref p1, .ref p2, .ref p3])), (p1, .inl (cJ, 12, .inr (.inl an))), (p2, .inl (cJ, 12, .inr (.inl sm))), (p3, .inl (cI, 12, .inl (upd fl k g))), (b2, .inr (4, [.ref y1, .ref y2, .ref y3])), (y1, .inl (cJ, 12, .inr (.inl an))), (y2, .inl (cJ, 12, .inr (.inl xsm))), (y3, .inl (cI, 12, .inl (upd xfl k g)))]) (st1 := []) ⟨hx, hb, hml, hown, hts⟩ (k_PT_setFailure l dC dI cI cJ cG cZ b2 y1 y2 y3 an xsm xfl k g hk) (cwV 2 hts (k_gV m_l_PD_50 m_i_PT_setFailure m_s_PT_setFailure m_in_PT m_c_PT_setFailure) rfl rfl rfl (by decide +kernel) ⟨Nat.le_of_ble_eq_true rfl, Nat.le_of_ble_eq_true rfl⟩) hK hF hP hD hS hA [7, 8, 9, 10] [0, 1, 2, 3, 4, 5, 6] [0, 1, 2, 3, 4, 5, 6, 7, 8, 9, 10] rfl rfl (by decide) (by decide) (by decide) rfl (by decide) rfl rfl rfl rfl hl.1 rfl (Nat.le_of_ble_eq_true rfl) dPD_fails_39 ⟨Nat.le_of_ble_eq_true rfl, Nat.le_of_ble_eq_true rfl⟩ rfl (fun H locs hP hD hS => ?_)
          refine lv_iconst (v := 1) hx hb dPD_fails_42 (by decide) ?_
          exact k_zret hx hb hr hlocks rfl hP hK hD hS rfl dPD_fails_43 ⟨Nat.le_of_ble_eq_true rfl, Nat.le_of_ble_eq_true rfl⟩
        · exact absurd h2 c_3

abbrev rm_PD_drop : Room := { frames := 2, cells := 0, slots := 0, locals := 44 }
set_option maxHeartbeats 4000000 in
set_option maxRecDepth 100000 in
theorem k_PD_drop (l : Launch) (dC : Nat → ClassId) (dI : Nat → Nat → Nat) (cI cJ cG cZ : ClassId) (o0 : Nat) (a0 : Nat) (a1 : Nat) (a2 : Nat) (a3 : Nat) (a4 : Nat) (a5 : Nat) (b0 : Nat) (b1 : Nat) (b2 : Nat) (b3 : Nat) (b4 : Nat) (b5 : Nat) (n1 : Nat) (n2 : Nat) (m1 : Nat) (m2 : Nat) (md : Nat → Int32) (kn : Nat → Int64) (x : Int32) (n : Int32) : k_M l yPD_drop wsPD_drop rm_PD_drop (dC, dI) vwCl [(cI, .int), (cJ, .long), (cG, .array .long), (cZ, .boolean)] [.ref o0, .int x, .int n] [(o0, .inr (6, [.ref a0, .ref b0])), (a0, .inr (1, [.ref a1, .ref a2, .ref a3, .ref a4, .ref a5])), (b0, .inr (1, [.ref b1, .ref b2, .ref b3, .ref b4, .ref b5])), (a1, .inr (3, [.ref n1, .ref n2])), (n1, .inl (cI, 8, .inl md)), (n2, .inl (cJ, 8, .inr (.inl kn))), (b1, .inr (3, [.ref m1, .ref m2])), (m1, .inl (cI, 8, .inl md)), (m2, .inl (cJ, 8, .inr (.inl kn)))] (some (.int (f_dr md kn x n))) [(o0, .inr (6, [.ref a0, .ref b0])), (a0, .inr (1, [.ref a1, .ref a2, .ref a3, .ref a4, .ref a5])), (b0, .inr (1, [.ref b1, .ref b2, .ref b3, .ref b4, .ref b5])), (a1, .inr (3, [.ref n1, .ref n2])), (n1, .inl (cI, 8, .inl md)), (n2, .inl (cJ, 8, .inr (.inl (f_drK md kn x n)))), (b1, .inr (3, [.ref m1, .ref m2])), (m1, .inl (cI, 8, .inl md)), (m2, .inl (cJ, 8, .inr (.inl (f_drK md kn x n))))] := by
  rcases (show f_isKind x = 0 ∨ (∃ k : Nat, k < 8 ∧ x = nI k ∧ f_isKnown md kn k n = 0) ∨ (∃ k : Nat, k < 8 ∧ x = nI k ∧ ¬ f_isKnown md kn k n = 0) by rcases f_isKind_or x with h | ⟨k, hk, h⟩; exact Or.inl h; by_cases h1 : f_isKnown md kn k n = 0; exact Or.inr (Or.inl ⟨k, hk, h, h1⟩); exact Or.inr (Or.inr ⟨k, hk, h, h1⟩)) with h0 | ⟨k, hk, rfl, h1⟩ | ⟨k, hk, rfl, h1⟩
  · have e1 : f_dr md kn x n = 0 := if_pos h0
    rw [show f_drK md kn x n = kn from if_pos e1, e1]
    refine k_of (cc := cPD_drop) (maxL := 3) (ret := (some .boolean)) (by decide) rfl (Nat.le_of_ble_eq_true rfl) ?_
    intro p e s m below meth c A ls hx hb hr hlocks hml hown hts hA hP hD hK hF hl hS
    have hown : s.vm.findClass RPD = some m.cls := hown
    have hl : lv_has ls 3 [(0, .ref o0), (1, .int x), (2, .int n)] := hl
    refine lv_iload_n hx hb dPD_drop_0 rfl (lv_at hl 1 rfl) ?_
    refine k_S (wr := [(o0, .inr (6, [.ref a0, .ref b0])), (a0, .inr (1, [.ref a1, .ref a2, .ref a3, .ref a4, .ref a5])), (b0, .inr (1, [.ref b1, .ref b2, .ref b3, .ref b4, .ref b5])), (a1, .inr (3, [.ref n1, .ref n2])), (n1, .inl (cI, 8, .inl md)), (n2, .inl (cJ, 8, .inr (.inl kn))), (b1, .inr (3, [.ref m1, .ref m2])), (m1, .inl (cI, 8, .inl md)), (m2, .inl (cJ, 8, .inr (.inl kn)))]) (W1 := [(o0, .inr (6, [.ref a0, .ref b0])), (a0, .inr (1, [.ref a1, .ref a2, .ref a3, .ref a4, .ref a5])), (b0, .inr (1, [.ref b1, .ref b2, .ref b3, .ref b4, .ref b5])), (a1, .inr (3, [.ref n1, .ref n2])), (n1, .inl (cI, 8, .inl md)), (n2, .inl (cJ, 8, .inr (.inl kn))), (b1, .inr (3, [.ref m1, .ref m2])), (m1, .inl (cI, 8, .inl md)), (m2, .inl (cJ, 8, .inr (.inl kn)))]) (st1 := [.int (f_isKind x)]) ⟨hx, hb, hml, hown, hts⟩ (k_PD_isKind l dC dI cI cJ cG cZ x) (va_cwS 1 hts (k_gS m_l_PD_54 m_st_PD_isKind m_in_PD m_c_PD_isKind) rfl rfl rfl (by decide +kernel) ⟨Nat.le_of_ble_eq_true rfl, Nat.le_of_ble_eq_true rfl⟩) hK hF hP hD hS hA [] [0, 1, 2, 3, 4, 5, 6, 7, 8] [0, 1, 2, 3, 4, 5, 6, 7, 8] rfl rfl (by decide) (by decide) (by decide) rfl (by decide) rfl hl.1 rfl (Nat.le_of_ble_eq_true rfl) dPD_drop_1 ⟨Nat.le_of_ble_eq_true rfl, Nat.le_of_ble_eq_true rfl⟩ rfl (fun H locs hP hD hS => ?_)
    refine lv_if_eq (tgt := 22) hx hb dPD_drop_4 (by decide) (fun c_1 => ?_) (fun c_1 => ?_)
    · refine lv_iconst (v := 0) hx hb dPD_drop_22 (by decide) ?_
      exact k_zret hx hb hr hlocks rfl hP hK hD hS rfl dPD_drop_23 ⟨Nat.le_of_ble_eq_true rfl, Nat.le_of_ble_eq_true rfl⟩
    · exact absurd h0 c_1
  · have e1 : f_dr md kn (nI k) n = 0 := by unfold f_dr; rw [if_neg (by rw [f_isKind_nI hk]; decide), nI_clamp (by omega), h1]
    rw [show f_drK md kn (nI k) n = kn from if_pos e1, e1]
    refine k_of (cc := cPD_drop) (maxL := 3) (ret := (some .boolean)) (by decide) rfl (Nat.le_of_ble_eq_true rfl) ?_
    intro p e s m below meth c A ls hx hb hr hlocks hml hown hts hA hP hD hK hF hl hS
    have hown : s.vm.findClass RPD = some m.cls := hown
    have hl : lv_has ls 3 [(0, .ref o0), (1, .int (nI k)), (2, .int n)] := hl
    refine lv_iload_n hx hb dPD_drop_0 rfl (lv_at hl 1 rfl) ?_
    refine k_S (wr := [(o0, .inr (6, [.ref a0, .ref b0])), (a0, .inr (1, [.ref a1, .ref a2, .ref a3, .ref a4, .ref a5])), (b0, .inr (1, [.ref b1, .ref b2, .ref b3, .ref b4, .ref b5])), (a1, .inr (3, [.ref n1, .ref n2])), (n1, .inl (cI, 8, .inl md)), (n2, .inl (cJ, 8, .inr (.inl kn))), (b1, .inr (3, [.ref m1, .ref m2])), (m1, .inl (cI, 8, .inl md)), (m2, .inl (cJ, 8, .inr (.inl kn)))]) (W1 := [(o0, .inr (6, [.ref a0, .ref b0])), (a0, .inr (1, [.ref a1, .ref a2, .ref a3, .ref a4, .ref a5])), (b0, .inr (1, [.ref b1, .ref b2, .ref b3, .ref b4, .ref b5])), (a1, .inr (3, [.ref n1, .ref n2])), (n1, .inl (cI, 8, .inl md)), (n2, .inl (cJ, 8, .inr (.inl kn))), (b1, .inr (3, [.ref m1, .ref m2])), (m1, .inl (cI, 8, .inl md)), (m2, .inl (cJ, 8, .inr (.inl kn)))]) (st1 := [.int (f_isKind (nI k))]) ⟨hx, hb, hml, hown, hts⟩ (k_PD_isKind l dC dI cI cJ cG cZ (nI k)) (va_cwS 1 hts (k_gS m_l_PD_54 m_st_PD_isKind m_in_PD m_c_PD_isKind) rfl rfl rfl (by decide +kernel) ⟨Nat.le_of_ble_eq_true rfl, Nat.le_of_ble_eq_true rfl⟩) hK hF hP hD hS hA [] [0, 1, 2, 3, 4, 5, 6, 7, 8] [0, 1, 2, 3, 4, 5, 6, 7, 8] rfl rfl (by decide) (by decide) (by decide) rfl (by decide) rfl hl.1 rfl (Nat.le_of_ble_eq_true rfl) dPD_drop_1 ⟨Nat.le_of_ble_eq_true rfl, Nat.le_of_ble_eq_true rfl⟩ rfl (fun H locs hP hD hS => ?_)
    refine lv_if_eq (tgt := 22) hx hb dPD_drop_4 (by decide) (fun c_1 => ?_) (fun c_1 => ?_)
    · exact absurd c_1 (by rw [f_isKind_nI hk]; decide)
    · refine lv_aload_n hx hb dPD_drop_7 rfl (lv_at hl 0 rfl) ?_
      refine va_get (D := (dC, dI)) (ci := 6) (v := .ref a0) (C := RPD) (T := TPD) (N := 2) hx hb hts inPD hown hK hP 0 rfl rfl 0 (by decide) (hts _ m_f_PD_10) (fun _ h9 => h9) rfl dPD_drop_8 ?_
      refine va_get (D := (dC, dI)) (ci := 1) (v := .ref a1) (C := RDK) (T := TDK) (N := 5) hx hb hts inDK hown hK hP 1 rfl rfl 0 (by decide) (hts _ m_f_PD_64) (fun _ h9 => h9) rfl dPD_drop_11 ?_
      refine lv_iload_n hx hb dPD_drop_14 rfl (lv_at hl 1 rfl) ?_
      refine lv_iload_n hx hb dPD_drop_15 rfl (lv_at hl 2 rfl) ?_
      refine k_V (wr := [(o0, .inr (6, [.ref a0, .ref b0])), (a0, .inr (1, [.ref a1, .ref a2, .ref a3, .ref a4, .ref a5])), (b0, .inr (1, [.ref b1, .ref b2, .ref b3, .ref b4, .ref b5])), (b1, .inr (3, [.ref m1, .ref m2])), (m1, .inl (cI, 8, .inl md)), (m2, .inl (cJ, 8, .inr (.inl kn)))]) (W1 := [(o0, .inr (6, [.ref a0, .ref b0])), (a0, .inr (1, [.ref a1, .ref a2, .ref a3, .ref a4, .ref a5])), (b0, .inr (1, [.ref b1, .ref b2, .ref b3, .ref b4, .ref b5])), (a1, .inr (3, [.ref n1, .ref n2])), (n1, .inl (cI, 8, .inl md)), (n2, .inl (cJ, 8, .inr (.inl kn))), (b1, .inr (3, [.ref m1, .ref m2])), (m1, .inl (cI, 8, .inl md)), (m2, .inl (cJ, 8, .inr (.inl kn)))]) (st1 := [.int (f_isKnown md kn k n)]) ⟨hx, hb, hml, hown, hts⟩ (k_NU_isKnown l dC dI cI cJ cG cZ a1 n1 n2 md kn k n hk) (cwV 2 hts (k_gV m_l_PD_80 m_i_NU_isKnown m_s_NU_isKnown m_in_NU m_c_NU_isKnown) rfl rfl rfl (by decide +kernel) ⟨Nat.le_of_ble_eq_true rfl, Nat.le_of_ble_eq_true rfl⟩) hK hF hP hD hS hA [3, 4, 5] [0, 1, 2, 6, 7, 8] [0, 1, 2, 6, 7, 8, 3, 4, 5] rfl rfl (by decide) (by decide) (by decide) rfl (by decide) rfl rfl rfl rfl hl.1 rfl (Nat.le_of_ble_eq_true rfl) dPD_drop_16 ⟨Nat.le_of_ble_eq_true rfl, Nat.le_of_ble_eq_true rfl⟩ rfl (fun H locs hP hD hS => ?_)
      refine lv_if_ne (tgt := 24) hx hb dPD_drop_19 (by decide) (fun c_2 => ?_) (fun c_2 => ?_)
      · exact absurd h1 c_2
      · refine lv_iconst (v := 0) hx hb dPD_drop_22 (by decide) ?_
        exact k_zret hx hb hr hlocks rfl hP hK hD hS rfl dPD_drop_23 ⟨Nat.le_of_ble_eq_true rfl, Nat.le_of_ble_eq_true rfl⟩
  · have e1 : f_dr md kn (nI k) n = 1 := by unfold f_dr; rw [if_neg (by rw [f_isKind_nI hk]; decide), nI_clamp (by omega)]; exact f_known1 h1
    have e2 : ¬ f_dr md kn (nI k) n = 0 := by rw [e1]; decide
    rw [show f_drK md kn (nI k) n = vp_updL kn k (kn k &&& (f_bit n ^^^ (-1))) by unfold f_drK; rw [if_neg e2, nI_clamp (by omega)], e1]
    refine k_of (cc := cPD_drop) (maxL := 3) (ret := (some .boolean)) (by decide) rfl (Nat.le_of_ble_eq_true rfl) ?_
    intro p e s m below meth c A ls hx hb hr hlocks hml hown hts hA hP hD hK hF hl hS
    have hown : s.vm.findClass RPD = some m.cls := hown
    have hl : lv_has ls 3 [(0, .ref o0), (1, .int (nI k)), (2, .int n)] := hl
    refine lv_iload_n hx hb dPD_drop_0 rfl (lv_at hl 1 rfl) ?_
    refine k_S (wr := [(o0, .inr (6, [.ref a0, .ref b0])), (a0, .inr (1, [.ref a1, .ref a2, .ref a3, .ref a4, .ref a5])), (b0, .inr (1, [.ref b1, .ref b2, .ref b3, .ref b4, .ref b5])), (a1, .inr (3, [.ref n1, .ref n2])), (n1, .inl (cI, 8, .inl md)), (n2, .inl (cJ, 8, .inr (.inl kn))), (b1, .inr (3, [.ref m1, .ref m2])), (m1, .inl (cI, 8, .inl md)), (m2, .inl (cJ, 8, .inr (.inl kn)))]) (W1 := [(o0, .inr (6, [.ref a0, .ref b0])), (a0, .inr (1, [.ref a1, .ref a2, .ref a3, .ref a4, .ref a5])), (b0, .inr (1, [.ref b1, .ref b2, .ref b3, .ref b4, .ref b5])), (a1, .inr (3, [.ref n1, .ref n2])), (n1, .inl (cI, 8, .inl md)), (n2, .inl (cJ, 8, .inr (.inl kn))), (b1, .inr (3, [.ref m1, .ref m2])), (m1, .inl (cI, 8, .inl md)), (m2, .inl (cJ, 8, .inr (.inl kn)))]) (st1 := [.int (f_isKind (nI k))]) ⟨hx, hb, hml, hown, hts⟩ (k_PD_isKind l dC dI cI cJ cG cZ (nI k)) (va_cwS 1 hts (k_gS m_l_PD_54 m_st_PD_isKind m_in_PD m_c_PD_isKind) rfl rfl rfl (by decide +kernel) ⟨Nat.le_of_ble_eq_true rfl, Nat.le_of_ble_eq_true rfl⟩) hK hF hP hD hS hA [] [0, 1, 2, 3, 4, 5, 6, 7, 8] [0, 1, 2, 3, 4, 5, 6, 7, 8] rfl rfl (by decide) (by decide) (by decide) rfl (by decide) rfl hl.1 rfl (Nat.le_of_ble_eq_true rfl) dPD_drop_1 ⟨Nat.le_of_ble_eq_true rfl, Nat.le_of_ble_eq_true rfl⟩ rfl (fun H locs hP hD hS => ?_)
    refine lv_if_eq (tgt := 22) hx hb dPD_drop_4 (by decide) (fun c_1 => ?_) (fun c_1 => ?_)
    · exact absurd c_1 (by rw [f_isKind_nI hk]; decide)
    · refine lv_aload_n hx hb dPD_drop_7 rfl (lv_at hl 0 rfl) ?_
      refine va_get (D := (dC, dI)) (ci := 6) (v := .ref a0) (C := RPD) (T := TPD) (N := 2) hx hb hts inPD hown hK hP 0 rfl rfl 0 (by decide) (hts _ m_f_PD_10) (fun _ h9 => h9) rfl dPD_drop_8 ?_
      refine va_get (D := (dC, dI)) (ci := 1) (v := .ref a1) (C := RDK) (T := TDK) (N := 5) hx hb hts inDK hown hK hP 1 rfl rfl 0 (by decide) (hts _ m_f_PD_64) (fun _ h9 => h9) rfl dPD_drop_11 ?_
      refine lv_iload_n hx hb dPD_drop_14 rfl (lv_at hl 1 rfl) ?_
      refine lv_iload_n hx hb dPD_drop_15 rfl (lv_at hl 2 rfl) ?_
      refine k_V (wr := [(o0, .inr (6, [.ref a0, .ref b0])), (a0, .inr (1, [.ref a1, .ref a2, .ref a3, .ref a4, .ref a5])), (b0, .inr (1, [.ref b1, .ref b2, .ref b3, .ref b4, .ref b5])), (b1, .inr (3, [.ref m1, .ref m2])), (m1, .inl (cI, 8, .inl md)), (m2, .inl (cJ, 8, .inr (.inl kn)))]) (W1 := [(o0, .inr (6, [.ref a0, .ref b0])), (a0, .inr (1, [.ref a1, .ref a2, .ref a3, .ref a4, .ref a5])), (b0, .inr (1, [.ref b1, .ref b2, .ref b3, .ref b4, .ref b5])), (a1, .inr (3, [.ref n1, .ref n2])), (n1, .inl (cI, 8, .inl md)), (n2, .inl (cJ, 8, .inr (.inl kn))), (b1, .inr (3, [.ref m1, .ref m2])), (m1, .inl (cI, 8, .inl md)), (m2, .inl (cJ, 8, .inr (.inl kn)))]) (st1 := [.int (f_isKnown md kn k n)]) ⟨hx, hb, hml, hown, hts⟩ (k_NU_isKnown l dC dI cI cJ cG cZ a1 n1 n2 md kn k n hk) (cwV 2 hts (k_gV m_l_PD_80 m_i_NU_isKnown m_s_NU_isKnown m_in_NU m_c_NU_isKnown) rfl rfl rfl (by decide +kernel) ⟨Nat.le_of_ble_eq_true rfl, Nat.le_of_ble_eq_true rfl⟩) hK hF hP hD hS hA [3, 4, 5] [0, 1, 2, 6, 7, 8] [0, 1, 2, 6, 7, 8, 3, 4, 5] rfl rfl (by decide) (by decide) (by decide) rfl (by decide) rfl rfl rfl rfl hl.1 rfl (Nat.le_of_ble_eq_true rfl) dPD_drop_16 ⟨Nat.le_of_ble_eq_true rfl, Nat.le_of_ble_eq_true rfl⟩ rfl (fun H locs hP hD hS => ?_)
      refine lv_if_ne (tgt := 24) hx hb dPD_drop_19 (by decide) (fun c_2 => ?_) (fun c_2 => ?_)
      · refine lv_aload_n hx hb dPD_drop_24 rfl (lv_at hl 0 rfl) ?_
        refine va_get (D := (dC, dI)) (ci := 6) (v := .ref a0) (C := RPD) (T := TPD) (N := 2) hx hb hts inPD hown hK hP 0 rfl rfl 0 (by decide) (hts _ m_f_PD_10) (fun _ h9 => h9) rfl dPD_drop_25 ?_
        refine va_get (D := (dC, dI)) (ci := 1) (v := .ref a1) (C := RDK) (T := TDK) (N := 5) hx hb hts inDK hown hK hP 1 rfl rfl 0 (by decide) (hts _ m_f_PD_64) (fun _ h9 => h9) rfl dPD_drop_28 ?_
        refine lv_iload_n hx hb dPD_drop_31 rfl (lv_at hl 1 rfl) ?_
        refine lv_iload_n hx hb dPD_drop_32 rfl (lv_at hl 2 rfl) ?_
        refine k_V (wr := [(o0, .inr (6, [.ref a0, .ref b0])), (a0, .inr (1, [.ref a1, .ref a2, .ref a3, .ref a4, .ref a5])), (b0, .inr (1, [.ref b1, .ref b2, .ref b3, .ref b4, .ref b5])), (b1, .inr (3, [.ref m1, .ref m2])), (m1, .inl (cI, 8, .inl md)), (m2, .inl (cJ, 8, .inr (.inl kn)))]) (W1 := [(o0, .inr (6, [.ref a0, .ref b0])), (a0, .inr (1, [.ref a1, .ref a2, .ref a3, .ref a4, .ref a5])), (b0, .inr (1, [.ref b1, .ref b2, .ref b3, .ref b4, .ref b5])), (a1, .inr (3, [.ref n1, .ref n2])), (n1, .inl (cI, 8, .inl md)), (n2, .inl (cJ, 8, .inr (.inl (vp_updL kn k (kn k &&& (f_bit n ^^^ (-1))))))), (b1, .inr (3, [.ref m1, .ref m2])), (m1, .inl (cI, 8, .inl md)), (m2, .inl (cJ, 8, .inr (.inl kn)))]) (st1 := []) ⟨hx, hb, hml, hown, hts⟩ (k_NU_forget l dC dI cI cJ cG cZ a1 n1 n2 md kn k n hk) (cwV 2 hts (k_gV m_l_PD_84 m_i_NU_forget m_s_NU_forget m_in_NU m_c_NU_forget) rfl rfl rfl (by decide +kernel) ⟨Nat.le_of_ble_eq_true rfl, Nat.le_of_ble_eq_true rfl⟩) hK hF hP hD hS hA [3, 4, 5] [0, 1, 2, 6, 7, 8] [0, 1, 2, 6, 7, 8, 3, 4, 5] rfl rfl (by decide) (by decide) (by decide) rfl (by decide) rfl rfl rfl rfl hl.1 rfl (Nat.le_of_ble_eq_true rfl) dPD_drop_33 ⟨Nat.le_of_ble_eq_true rfl, Nat.le_of_ble_eq_true rfl⟩ rfl (fun H locs hP hD hS => ?_)
        refine lv_aload_n hx hb dPD_drop_36 rfl (lv_at hl 0 rfl) ?_
        refine va_get (D := (dC, dI)) (ci := 6) (v := .ref b0) (C := RPD) (T := TPD) (N := 2) hx hb hts inPD hown hK hP 0 rfl rfl 1 (by decide) (hts _ m_f_PD_16) (fun _ h9 => h9) rfl dPD_drop_37 ?_
        refine va_get (D := (dC, dI)) (ci := 1) (v := .ref b1) (C := RDK) (T := TDK) (N := 5) hx hb hts inDK hown hK hP 2 rfl rfl 0 (by decide) (hts _ m_f_PD_64) (fun _ h9 => h9) rfl dPD_drop_40 ?_
        refine lv_iload_n hx hb dPD_drop_43 rfl (lv_at hl 1 rfl) ?_
        refine lv_iload_n hx hb dPD_drop_44 rfl (lv_at hl 2 rfl) ?_
        refine k_V (wr := [(o0, .inr (6, [.ref a0, .ref b0])), (a0, .inr (1, [.ref a1, .ref a2, .ref a3, .ref a4, .ref a5])), (b0, .inr (1, [.ref b1, .ref b2, .ref b3, .ref b4, .ref b5])), (a1, .inr (3, [.ref n1, .ref n2])), (n1, .inl (cI, 8, .inl md)), (n2, .inl (cJ, 8, .inr (.inl (vp_updL kn k (kn k &&& (f_bit n ^^^ (-1)))))))]) (W1 := [(o0, .inr (6, [.ref a0, .ref b0])), (a0, .inr (1, [.ref a1, .ref a2, .ref a3, .ref a4, .ref a5])), (b0, .inr (1, [.ref b1, .ref b2, .ref b3, .ref b4, .ref b5])), (a1, .inr (3, [.ref n1, .ref n2])), (n1, .inl (cI, 8, .inl md)), (n2, .inl (cJ, 8, .inr (.inl (vp_updL kn k (kn k &&& (f_bit n ^^^ (-1))))))), (b1, .inr (3, [.ref m1, .ref m2])), (m1, .inl (cI, 8, .inl md)), (m2, .inl (cJ, 8, .inr (.inl (vp_updL kn k (kn k &&& (f_bit n ^^^ (-1)))))))]) (st1 := []) ⟨hx, hb, hml, hown, hts⟩ (k_NU_forget l dC dI cI cJ cG cZ b1 m1 m2 md kn k n hk) (cwV 2 hts (k_gV m_l_PD_84 m_i_NU_forget m_s_NU_forget m_in_NU m_c_NU_forget) rfl rfl rfl (by decide +kernel) ⟨Nat.le_of_ble_eq_true rfl, Nat.le_of_ble_eq_true rfl⟩) hK hF hP hD hS hA [6, 7, 8] [0, 1, 2, 3, 4, 5] [0, 1, 2, 3, 4, 5, 6, 7, 8] rfl rfl (by decide) (by decide) (by decide) rfl (by decide) rfl rfl rfl rfl hl.1 rfl (Nat.le_of_ble_eq_true rfl) dPD_drop_45 ⟨Nat.le_of_ble_eq_true rfl, Nat.le_of_ble_eq_true rfl⟩ rfl (fun H locs hP hD hS => ?_)
        refine lv_iconst (v := 1) hx hb dPD_drop_48 (by decide) ?_
        exact k_zret hx hb hr hlocks rfl hP hK hD hS rfl dPD_drop_49 ⟨Nat.le_of_ble_eq_true rfl, Nat.le_of_ble_eq_true rfl⟩
      · exact absurd c_2 h1

abbrev rm_PD_numbers : Room := { frames := 2, cells := 0, slots := 0, locals := 42 }
set_option maxHeartbeats 4000000 in
set_option maxRecDepth 100000 in
theorem k_PD_numbers (l : Launch) (dC : Nat → ClassId) (dI : Nat → Nat → Nat) (cI cJ cG cZ : ClassId) (o0 : Nat) (a0 : Nat) (a1 : Nat) (a2 : Nat) (a3 : Nat) (a4 : Nat) (a5 : Nat) (b0 : Nat) (n1 : Nat) (n2 : Nat) (md : Nat → Int32) (kn : Nat → Int64) (x : Int32) : k_M l yPD_numbers wsPD_numbers rm_PD_numbers (dC, dI) vwCl [(cI, .int), (cJ, .long), (cG, .array .long), (cZ, .boolean)] [.ref o0, .int x] [(o0, .inr (6, [.ref a0, .ref b0])), (a0, .inr (1, [.ref a1, .ref a2, .ref a3, .ref a4, .ref a5])), (a1, .inr (3, [.ref n1, .ref n2])), (n1, .inl (cI, 8, .inl md)), (n2, .inl (cJ, 8, .inr (.inl kn)))] (some (.int (f_nb kn x))) [(o0, .inr (6, [.ref a0, .ref b0])), (a0, .inr (1, [.ref a1, .ref a2, .ref a3, .ref a4, .ref a5])), (a1, .inr (3, [.ref n1, .ref n2])), (n1, .inl (cI, 8, .inl md)), (n2, .inl (cJ, 8, .inr (.inl kn)))] := by
  rcases f_isKind_or x with h0 | ⟨k, hk, rfl⟩
  · rw [show f_nb kn x = -1 from if_pos h0]
    refine k_of (cc := cPD_numbers) (maxL := 2) (ret := (some .int)) (by decide) rfl (Nat.le_of_ble_eq_true rfl) ?_
    intro p e s m below meth c A ls hx hb hr hlocks hml hown hts hA hP hD hK hF hl hS
    have hown : s.vm.findClass RPD = some m.cls := hown
    have hl : lv_has ls 2 [(0, .ref o0), (1, .int x)] := hl
    refine lv_iload_n hx hb dPD_numbers_0 rfl (lv_at hl 1 rfl) ?_
    refine k_S (wr := [(o0, .inr (6, [.ref a0, .ref b0])), (a0, .inr (1, [.ref a1, .ref a2, .ref a3, .ref a4, .ref a5])), (a1, .inr (3, [.ref n1, .ref n2])), (n1, .inl (cI, 8, .inl md)), (n2, .inl (cJ, 8, .inr (.inl kn)))]) (W1 := [(o0, .inr (6, [.ref a0, .ref b0])), (a0, .inr (1, [.ref a1, .ref a2, .ref a3, .ref a4, .ref a5])), (a1, .inr (3, [.ref n1, .ref n2])), (n1, .inl (cI, 8, .inl md)), (n2, .inl (cJ, 8, .inr (.inl kn)))]) (st1 := [.int (f_isKind x)]) ⟨hx, hb, hml, hown, hts⟩ (k_PD_isKind l dC dI cI cJ cG cZ x) (va_cwS 1 hts (k_gS m_l_PD_54 m_st_PD_isKind m_in_PD m_c_PD_isKind) rfl rfl rfl (by decide +kernel) ⟨Nat.le_of_ble_eq_true rfl, Nat.le_of_ble_eq_true rfl⟩) hK hF hP hD hS hA [] [0, 1, 2, 3, 4] [0, 1, 2, 3, 4] rfl rfl (by decide) (by decide) (by decide) rfl (by decide) rfl hl.1 rfl (Nat.le_of_ble_eq_true rfl) dPD_numbers_1 ⟨Nat.le_of_ble_eq_true rfl, Nat.le_of_ble_eq_true rfl⟩ rfl (fun H locs hP hD hS => ?_)
    refine lv_if_eq (tgt := 21) hx hb dPD_numbers_4 (by decide) (fun c_1 => ?_) (fun c_1 => ?_)
    · refine lv_iconst (v := (-1)) hx hb dPD_numbers_21 (by decide) ?_
      exact k_iret hx hb hr hlocks hP hK hD hS rfl dPD_numbers_22 ⟨Nat.le_of_ble_eq_true rfl, Nat.le_of_ble_eq_true rfl⟩
    · exact absurd h0 c_1
  · rw [show f_nb kn (nI k) = nI (bc (f_nat (kn k)) 64) by unfold f_nb; rw [if_neg (by rw [f_isKind_nI hk]; decide), nI_clamp (by omega)]]
    refine k_of (cc := cPD_numbers) (maxL := 2) (ret := (some .int)) (by decide) rfl (Nat.le_of_ble_eq_true rfl) ?_
    intro p e s m below meth c A ls hx hb hr hlocks hml hown hts hA hP hD hK hF hl hS
    have hown : s.vm.findClass RPD = some m.cls := hown
    have hl : lv_has ls 2 [(0, .ref o0), (1, .int (nI k))] := hl
    refine lv_iload_n hx hb dPD_numbers_0 rfl (lv_at hl 1 rfl) ?_
    refine k_S (wr := [(o0, .inr (6, [.ref a0, .ref b0])), (a0, .inr (1, [.ref a1, .ref a2, .ref a3, .ref a4, .ref a5])), (a1, .inr (3, [.ref n1, .ref n2])), (n1, .inl (cI, 8, .inl md)), (n2, .inl (cJ, 8, .inr (.inl kn)))]) (W1 := [(o0, .inr (6, [.ref a0, .ref b0])), (a0, .inr (1, [.ref a1, .ref a2, .ref a3, .ref a4, .ref a5])), (a1, .inr (3, [.ref n1, .ref n2])), (n1, .inl (cI, 8, .inl md)), (n2, .inl (cJ, 8, .inr (.inl kn)))]) (st1 := [.int (f_isKind (nI k))]) ⟨hx, hb, hml, hown, hts⟩ (k_PD_isKind l dC dI cI cJ cG cZ (nI k)) (va_cwS 1 hts (k_gS m_l_PD_54 m_st_PD_isKind m_in_PD m_c_PD_isKind) rfl rfl rfl (by decide +kernel) ⟨Nat.le_of_ble_eq_true rfl, Nat.le_of_ble_eq_true rfl⟩) hK hF hP hD hS hA [] [0, 1, 2, 3, 4] [0, 1, 2, 3, 4] rfl rfl (by decide) (by decide) (by decide) rfl (by decide) rfl hl.1 rfl (Nat.le_of_ble_eq_true rfl) dPD_numbers_1 ⟨Nat.le_of_ble_eq_true rfl, Nat.le_of_ble_eq_true rfl⟩ rfl (fun H locs hP hD hS => ?_)
    refine lv_if_eq (tgt := 21) hx hb dPD_numbers_4 (by decide) (fun c_1 => ?_) (fun c_1 => ?_)
    · exact absurd c_1 (by rw [f_isKind_nI hk]; decide)
    · refine lv_aload_n hx hb dPD_numbers_7 rfl (lv_at hl 0 rfl) ?_
      refine va_get (D := (dC, dI)) (ci := 6) (v := .ref a0) (C := RPD) (T := TPD) (N := 2) hx hb hts inPD hown hK hP 0 rfl rfl 0 (by decide) (hts _ m_f_PD_10) (fun _ h9 => h9) rfl dPD_numbers_8 ?_
      refine va_get (D := (dC, dI)) (ci := 1) (v := .ref a1) (C := RDK) (T := TDK) (N := 5) hx hb hts inDK hown hK hP 1 rfl rfl 0 (by decide) (hts _ m_f_PD_64) (fun _ h9 => h9) rfl dPD_numbers_11 ?_
      refine lv_iload_n hx hb dPD_numbers_14 rfl (lv_at hl 1 rfl) ?_
      refine k_V (wr := [(o0, .inr (6, [.ref a0, .ref b0])), (a0, .inr (1, [.ref a1, .ref a2, .ref a3, .ref a4, .ref a5]))]) (W1 := [(o0, .inr (6, [.ref a0, .ref b0])), (a0, .inr (1, [.ref a1, .ref a2, .ref a3, .ref a4, .ref a5])), (a1, .inr (3, [.ref n1, .ref n2])), (n1, .inl (cI, 8, .inl md)), (n2, .inl (cJ, 8, .inr (.inl kn)))]) (st1 := [.int (nI (bc (f_nat (kn k)) 64))]) ⟨hx, hb, hml, hown, hts⟩ (k_NU_countKnown l dC dI cI cJ cG cZ a1 n1 n2 md kn k hk) (cwV 1 hts (k_gV m_l_PD_106 m_i_NU_countKnown m_s_NU_countKnown m_in_NU m_c_NU_countKnown) rfl rfl rfl (by decide +kernel) ⟨Nat.le_of_ble_eq_true rfl, Nat.le_of_ble_eq_true rfl⟩) hK hF hP hD hS hA [2, 3, 4] [0, 1] [0, 1, 2, 3, 4] rfl rfl (by decide) (by decide) (by decide) rfl (by decide) rfl rfl rfl rfl hl.1 rfl (Nat.le_of_ble_eq_true rfl) dPD_numbers_15 ⟨Nat.le_of_ble_eq_true rfl, Nat.le_of_ble_eq_true rfl⟩ rfl (fun H locs hP hD hS => ?_)
      refine lv_goto (tgt := 22) hx hb dPD_numbers_18 (by decide) ?_
      exact k_iret hx hb hr hlocks hP hK hD hS rfl dPD_numbers_22 ⟨Nat.le_of_ble_eq_true rfl, Nat.le_of_ble_eq_true rfl⟩

abbrev rm_PD_again : Room := { frames := 11, cells := 1, slots := 6, locals := 209 }
set_option maxHeartbeats 4000000 in
set_option maxRecDepth 100000 in
theorem k_PD_again (l : Launch) (dC : Nat → ClassId) (dI : Nat → Nat → Nat) (cI cJ cG cZ : ClassId) (o0 : Nat) (a0 : Nat) (b0 : Nat) (b1 : Nat) (b2 : Nat) (b3 : Nat) (b4 : Nat) (b5 : Nat) (xn1 : Nat) (xn2 : Nat) (xp1 : Nat) (xp2 : Nat) (xp3 : Nat) (xt1 : Nat) (xj1 : Nat) (xsm : Nat → Int64) (xtf : Nat → Int64) (xrg : Nat → Int64) (xfl : Nat → Int32) (xz : Nat) (xq : Nat) (md : Nat → Int32) (kn : Nat → Int64) (an : Nat → Int64) (x : Int32) (n : Int32) (v : Int64) (xhg : ∀ k : Nat, k < 12 → xfl k = 0 ∨ xfl k = 1 ∨ xfl k = 2 ∨ xfl k = 3 ∨ xfl k = 4 ∨ xfl k = 5) (xhz : xz ≤ 64) (xhq : xq < 64) (hlt : l.stackTraces = false) : k_M l yPD_again wsPD_again rm_PD_again (dC, dI) vwCl [(cI, .int), (cJ, .long), (cG, .array .long), (cZ, .boolean)] [.ref o0, .int x, .int n, .long v] [(o0, .inr (6, [.ref a0, .ref b0])), (b0, .inr (1, [.ref b1, .ref b2, .ref b3, .ref b4, .ref b5])), (b1, .inr (3, [.ref xn1, .ref xn2])), (xn1, .inl (cI, 8, .inl md)), (xn2, .inl (cJ, 8, .inr (.inl kn))), (b2, .inr (4, [.ref xp1, .ref xp2, .ref xp3])), (xp1, .inl (cJ, 12, .inr (.inl an))), (xp2, .inl (cJ, 12, .inr (.inl xsm))), (xp3, .inl (cI, 12, .inl xfl)), (b3, .inr (5, [.ref xt1])), (xt1, .inl (cJ, 8, .inr (.inl xtf))), (b5, .inr (2, [.ref xj1, .int (nI xz), .int (nI xq)])), (xj1, .inl (cJ, 64, .inr (.inl xrg)))] (some (.long (f_aA md kn an xsm xfl x n v))) [(o0, .inr (6, [.ref a0, .ref b0])), (b0, .inr (1, [.ref b1, .ref b2, .ref b3, .ref b4, .ref b5])), (b1, .inr (3, [.ref xn1, .ref xn2])), (xn1, .inl (cI, 8, .inl md)), (xn2, .inl (cJ, 8, .inr (.inl kn))), (b2, .inr (4, [.ref xp1, .ref xp2, .ref xp3])), (xp1, .inl (cJ, 12, .inr (.inl an))), (xp2, .inl (cJ, 12, .inr (.inl (f_aS md kn xsm xfl x n v)))), (xp3, .inl (cI, 12, .inl (f_aF md kn xfl x n))), (b3, .inr (5, [.ref xt1])), (xt1, .inl (cJ, 8, .inr (.inl (f_aT md kn xtf xfl x n)))), (b5, .inr (2, [.ref xj1, .int (nI (f_js xz)), .int (nI ((xq + 1) % 64))])), (xj1, .inl (cJ, 64, .inr (.inl (vp_updL xrg xq (f_aA md kn an xsm xfl x n v)))))] := by
  refine k_of (cc := cPD_again) (maxL := 5) (ret := (some .long)) (by decide) rfl (Nat.le_of_ble_eq_true rfl) ?_
  intro p e s m below meth c A ls hx hb hr hlocks hml hown hts hA hP hD hK hF hl hS
  have hown : s.vm.findClass RPD = some m.cls := hown
  have hl : lv_has ls 5 [(0, .ref o0), (1, .int x), (2, .int n), (3, .long v)] := hl
  refine lv_aload_n hx hb dPD_again_0 rfl (lv_at hl 0 rfl) ?_
  refine va_get (D := (dC, dI)) (ci := 6) (v := .ref b0) (C := RPD) (T := TPD) (N := 2) hx hb hts inPD hown hK hP 0 rfl rfl 1 (by decide) (hts _ m_f_PD_16) (fun _ h9 => h9) rfl dPD_again_1 ?_
  refine lv_iload_n hx hb dPD_again_4 rfl (lv_at hl 1 rfl) ?_
  refine lv_iload_n hx hb dPD_again_5 rfl (lv_at hl 2 rfl) ?_
  refine lv_lload_n hx hb dPD_again_6 rfl (lv_at hl 3 rfl) ?_
  refine k_V (wr := [(o0, .inr (6, [.ref a0, .ref b0]))]) (W1 := [(o0, .inr (6, [.ref a0, .ref b0])), (b0, .inr (1, [.ref b1, .ref b2, .ref b3, .ref b4, .ref b5])), (b1, .inr (3, [.ref xn1, .ref xn2])), (xn1, .inl (cI, 8, .inl md)), (xn2, .inl (cJ, 8, .inr (.inl kn))), (b2, .inr (4, [.ref xp1, .ref xp2, .ref xp3])), (xp1, .inl (cJ, 12, .inr (.inl an))), (xp2, .inl (cJ, 12, .inr (.inl (f_aS md kn xsm xfl x n v)))), (xp3, .inl (cI, 12, .inl (f_aF md kn xfl x n))), (b3, .inr (5, [.ref xt1])), (xt1, .inl (cJ, 8, .inr (.inl (f_aT md kn xtf xfl x n)))), (b5, .inr (2, [.ref xj1, .int (nI (f_js xz)), .int (nI ((xq + 1) % 64))])), (xj1, .inl (cJ, 64, .inr (.inl (vp_updL xrg xq (f_aA md kn an xsm xfl x n v)))))]) (st1 := [.long (f_aA md kn an xsm xfl x n v)]) ⟨hx, hb, hml, hown, hts⟩ (k_DK_ask l dC dI cI cJ cG cZ b0 b1 b2 b3 b4 b5 xn1 xn2 xp1 xp2 xp3 xt1 md kn an xsm xfl xtf x n v xj1 xrg xz xq xhg hlt xhz xhq) (cwV 3 hts (k_gV m_l_PD_87 m_i_DK_ask m_s_DK_ask m_in_DK m_c_DK_ask) rfl rfl rfl (by decide +kernel) ⟨Nat.le_of_ble_eq_true rfl, Nat.le_of_ble_eq_true rfl⟩) hK hF hP hD hS hA [1, 2, 3, 4, 5, 6, 7, 8, 9, 10, 11, 12] [0] [0, 1, 2, 3, 4, 5, 6, 7, 8, 9, 10, 11, 12] rfl rfl (by decide) (by decide) (by decide) rfl (by decide) rfl rfl rfl rfl hl.1 rfl (Nat.le_of_ble_eq_true rfl) dPD_again_7 ⟨Nat.le_of_ble_eq_true rfl, Nat.le_of_ble_eq_true rfl⟩ rfl (fun H locs hP hD hS => ?_)
  exact k_lret hx hb hr hlocks hP hK hD hS rfl dPD_again_10 ⟨Nat.le_of_ble_eq_true rfl, Nat.le_of_ble_eq_true rfl⟩

abbrev rm_PD_call : Room := { frames := 11, cells := 2, slots := 12, locals := 209 }
set_option maxHeartbeats 4000000 in
set_option maxRecDepth 100000 in
theorem k_PD_call (l : Launch) (dC : Nat → ClassId) (dI : Nat → Nat → Nat) (cI cJ cG cZ : ClassId) (o0 : Nat) (a0 : Nat) (a1 : Nat) (a2 : Nat) (a3 : Nat) (a4 : Nat) (a5 : Nat) (b0 : Nat) (b1 : Nat) (b2 : Nat) (b3 : Nat) (b4 : Nat) (b5 : Nat) (n1 : Nat) (n2 : Nat) (p1 : Nat) (p2 : Nat) (p3 : Nat) (t1 : Nat) (j1 : Nat) (sm : Nat → Int64) (tf : Nat → Int64) (rg : Nat → Int64) (fl : Nat → Int32) (z : Nat) (q : Nat) (xn1 : Nat) (xn2 : Nat) (xp1 : Nat) (xp2 : Nat) (xp3 : Nat) (xt1 : Nat) (xj1 : Nat) (xsm : Nat → Int64) (xtf : Nat → Int64) (xrg : Nat → Int64) (xfl : Nat → Int32) (xz : Nat) (xq : Nat) (md : Nat → Int32) (kn : Nat → Int64) (an : Nat → Int64) (x : Int32) (n : Int32) (v : Int64) (hg : ∀ k : Nat, k < 12 → fl k = 0 ∨ fl k = 1 ∨ fl k = 2 ∨ fl k = 3 ∨ fl k = 4 ∨ fl k = 5) (hz : z ≤ 64) (hq : q < 64) (xhg : ∀ k : Nat, k < 12 → xfl k = 0 ∨ xfl k = 1 ∨ xfl k = 2 ∨ xfl k = 3 ∨ xfl k = 4 ∨ xfl k = 5) (xhz : xz ≤ 64) (xhq : xq < 64) (hlt : l.stackTraces = false) : k_M l yPD_call wsPD_call rm_PD_call (dC, dI) vwCl [(cI, .int), (cJ, .long), (cG, .array .long), (cZ, .boolean)] [.ref o0, .int x, .int n, .long v] [(o0, .inr (6, [.ref a0, .ref b0])), (a0, .inr (1, [.ref a1, .ref a2, .ref a3, .ref a4, .ref a5])), (b0, .inr (1, [.ref b1, .ref b2, .ref b3, .ref b4, .ref b5])), (a1, .inr (3, [.ref n1, .ref n2])), (n1, .inl (cI, 8, .inl md)), (n2, .inl (cJ, 8, .inr (.inl kn))), (a2, .inr (4, [.ref p1, .ref p2, .ref p3])), (p1, .inl (cJ, 12, .inr (.inl an))), (p2, .inl (cJ, 12, .inr (.inl sm))), (p3, .inl (cI, 12, .inl fl)), (a3, .inr (5, [.ref t1])), (t1, .inl (cJ, 8, .inr (.inl tf))), (a5, .inr (2, [.ref j1, .int (nI z), .int (nI q)])), (j1, .inl (cJ, 64, .inr (.inl rg))), (b1, .inr (3, [.ref xn1, .ref xn2])), (xn1, .inl (cI, 8, .inl md)), (xn2, .inl (cJ, 8, .inr (.inl kn))), (b2, .inr (4, [.ref xp1, .ref xp2, .ref xp3])), (xp1, .inl (cJ, 12, .inr (.inl an))), (xp2, .inl (cJ, 12, .inr (.inl xsm))), (xp3, .inl (cI, 12, .inl xfl)), (b3, .inr (5, [.ref xt1])), (xt1, .inl (cJ, 8, .inr (.inl xtf))), (b5, .inr (2, [.ref xj1, .int (nI xz), .int (nI xq)])), (xj1, .inl (cJ, 64, .inr (.inl xrg)))] (some (.long (f_aA md kn an sm fl x n v))) [(o0, .inr (6, [.ref a0, .ref b0])), (a0, .inr (1, [.ref a1, .ref a2, .ref a3, .ref a4, .ref a5])), (b0, .inr (1, [.ref b1, .ref b2, .ref b3, .ref b4, .ref b5])), (a1, .inr (3, [.ref n1, .ref n2])), (n1, .inl (cI, 8, .inl md)), (n2, .inl (cJ, 8, .inr (.inl kn))), (a2, .inr (4, [.ref p1, .ref p2, .ref p3])), (p1, .inl (cJ, 12, .inr (.inl an))), (p2, .inl (cJ, 12, .inr (.inl (f_aS md kn sm fl x n v)))), (p3, .inl (cI, 12, .inl (f_aF md kn fl x n))), (a3, .inr (5, [.ref t1])), (t1, .inl (cJ, 8, .inr (.inl (f_aT md kn tf fl x n)))), (a5, .inr (2, [.ref j1, .int (nI (f_js z)), .int (nI ((q + 1) % 64))])), (j1, .inl (cJ, 64, .inr (.inl (vp_updL rg q (f_aA md kn an sm fl x n v))))), (b1, .inr (3, [.ref xn1, .ref xn2])), (xn1, .inl (cI, 8, .inl md)), (xn2, .inl (cJ, 8, .inr (.inl kn))), (b2, .inr (4, [.ref xp1, .ref xp2, .ref xp3])), (xp1, .inl (cJ, 12, .inr (.inl an))), (xp2, .inl (cJ, 12, .inr (.inl (f_aS md kn xsm xfl x n v)))), (xp3, .inl (cI, 12, .inl (f_aF md kn xfl x n))), (b3, .inr (5, [.ref xt1])), (xt1, .inl (cJ, 8, .inr (.inl (f_aT md kn xtf xfl x n)))), (b5, .inr (2, [.ref xj1, .int (nI (f_js xz)), .int (nI ((xq + 1) % 64))])), (xj1, .inl (cJ, 64, .inr (.inl (vp_updL xrg xq (f_aA md kn an xsm xfl x n v)))))] := by
  refine k_of (cc := cPD_call) (maxL := 5) (ret := (some .long)) (by decide) rfl (Nat.le_of_ble_eq_true rfl) ?_
  intro p e s m below meth c A ls hx hb hr hlocks hml hown hts hA hP hD hK hF hl hS
  have hown : s.vm.findClass RPD = some m.cls := hown
  have hl : lv_has ls 5 [(0, .ref o0), (1, .int x), (2, .int n), (3, .long v)] := hl
  refine lv_aload_n hx hb dPD_call_0 rfl (lv_at hl 0 rfl) ?_
  refine va_get (D := (dC, dI)) (ci := 6) (v := .ref b0) (C := RPD) (T := TPD) (N := 2) hx hb hts inPD hown hK hP 0 rfl rfl 1 (by decide) (hts _ m_f_PD_16) (fun _ h9 => h9) rfl dPD_call_1 ?_
  refine lv_iload_n hx hb dPD_call_4 rfl (lv_at hl 1 rfl) ?_
  refine lv_iload_n hx hb dPD_call_5 rfl (lv_at hl 2 rfl) ?_
  refine lv_lload_n hx hb dPD_call_6 rfl (lv_at hl 3 rfl) ?_
  refine k_V (wr := [(o0, .inr (6, [.ref a0, .ref b0])), (a0, .inr (1, [.ref a1, .ref a2, .ref a3, .ref a4, .ref a5])), (a1, .inr (3, [.ref n1, .ref n2])), (n1, .inl (cI, 8, .inl md)), (n2, .inl (cJ, 8, .inr (.inl kn))), (a2, .inr (4, [.ref p1, .ref p2, .ref p3])), (p1, .inl (cJ, 12, .inr (.inl an))), (p2, .inl (cJ, 12, .inr (.inl sm))), (p3, .inl (cI, 12, .inl fl)), (a3, .inr (5, [.ref t1])), (t1, .inl (cJ, 8, .inr (.inl tf))), (a5, .inr (2, [.ref j1, .int (nI z), .int (nI q)])), (j1, .inl (cJ, 64, .inr (.inl rg)))]) (W1 := [(o0, .inr (6, [.ref a0, .ref b0])), (a0, .inr (1, [.ref a1, .ref a2, .ref a3, .ref a4, .ref a5])), (b0, .inr (1, [.ref b1, .ref b2, .ref b3, .ref b4, .ref b5])), (a1, .inr (3, [.ref n1, .ref n2])), (n1, .inl (cI, 8, .inl md)), (n2, .inl (cJ, 8, .inr (.inl kn))), (a2, .inr (4, [.ref p1, .ref p2, .ref p3])), (p1, .inl (cJ, 12, .inr (.inl an))), (p2, .inl (cJ, 12, .inr (.inl sm))), (p3, .inl (cI, 12, .inl fl)), (a3, .inr (5, [.ref t1])), (t1, .inl (cJ, 8, .inr (.inl tf))), (a5, .inr (2, [.ref j1, .int (nI z), .int (nI q)])), (j1, .inl (cJ, 64, .inr (.inl rg))), (b1, .inr (3, [.ref xn1, .ref xn2])), (xn1, .inl (cI, 8, .inl md)), (xn2, .inl (cJ, 8, .inr (.inl kn))), (b2, .inr (4, [.ref xp1, .ref xp2, .ref xp3])), (xp1, .inl (cJ, 12, .inr (.inl an))), (xp2, .inl (cJ, 12, .inr (.inl (f_aS md kn xsm xfl x n v)))), (xp3, .inl (cI, 12, .inl (f_aF md kn xfl x n))), (b3, .inr (5, [.ref xt1])), (xt1, .inl (cJ, 8, .inr (.inl (f_aT md kn xtf xfl x n)))), (b5, .inr (2, [.ref xj1, .int (nI (f_js xz)), .int (nI ((xq + 1) % 64))])), (xj1, .inl (cJ, 64, .inr (.inl (vp_updL xrg xq (f_aA md kn an xsm xfl x n v)))))]) (st1 := [.long (f_aA md kn an xsm xfl x n v)]) ⟨hx, hb, hml, hown, hts⟩ (k_DK_ask l dC dI cI cJ cG cZ b0 b1 b2 b3 b4 b5 xn1 xn2 xp1 xp2 xp3 xt1 md kn an xsm xfl xtf x n v xj1 xrg xz xq xhg hlt xhz xhq) (cwV 3 hts (k_gV m_l_PD_87 m_i_DK_ask m_s_DK_ask m_in_DK m_c_DK_ask) rfl rfl rfl (by decide +kernel) ⟨Nat.le_of_ble_eq_true rfl, Nat.le_of_ble_eq_true rfl⟩) hK hF hP hD hS hA [2, 14, 15, 16, 17, 18, 19, 20, 21, 22, 23, 24] [0, 1, 3, 4, 5, 6, 7, 8, 9, 10, 11, 12, 13] [0, 1, 13, 2, 3, 4, 5, 6, 7, 8, 9, 10, 11, 12, 14, 15, 16, 17, 18, 19, 20, 21, 22, 23, 24] rfl rfl (by decide) (by decide) (by decide) rfl (by decide) rfl rfl rfl rfl hl.1 rfl (Nat.le_of_ble_eq_true rfl) dPD_call_7 ⟨Nat.le_of_ble_eq_true rfl, Nat.le_of_ble_eq_true rfl⟩ rfl (fun H locs hP hD hS => ?_)
  refine lv_pop2_2 hx hb dPD_call_10 rfl ?_
  refine lv_aload_n hx hb dPD_call_11 rfl (lv_at hl 0 rfl) ?_
  refine va_get (D := (dC, dI)) (ci := 6) (v := .ref a0) (C := RPD) (T := TPD) (N := 2) hx hb hts inPD hown hK hP 0 rfl rfl 0 (by decide) (hts _ m_f_PD_10) (fun _ h9 => h9) rfl dPD_call_12 ?_
  refine lv_iload_n hx hb dPD_call_15 rfl (lv_at hl 1 rfl) ?_
  refine lv_iload_n hx hb dPD_call_16 rfl (lv_at hl 2 rfl) ?_
  refine lv_lload_n hx hb dPD_call_17 rfl (lv_at hl 3 rfl) ?_
  refine k_V (wr := [(o0, .inr (6, [.ref a0, .ref b0])), (b0, .inr (1, [.ref b1, .ref b2, .ref b3, .ref b4, .ref b5])), (b1, .inr (3, [.ref xn1, .ref xn2])), (xn1, .inl (cI, 8, .inl md)), (xn2, .inl (cJ, 8, .inr (.inl kn))), (b2, .inr (4, [.ref xp1, .ref xp2, .ref xp3])), (xp1, .inl (cJ, 12, .inr (.inl an))), (xp2, .inl (cJ, 12, .inr (.inl (f_aS md kn xsm xfl x n v)))), (xp3, .inl (cI, 12, .inl (f_aF md kn xfl x n))), (b3, .inr (5, [.ref xt1])), (xt1, .inl (cJ, 8, .inr (.inl (f_aT md kn xtf xfl x n)))), (b5, .inr (2, [.ref xj1, .int (nI (f_js xz)), .int (nI ((xq + 1) % 64))])), (xj1, .inl (cJ, 64, .inr (.inl (vp_updL xrg xq (f_aA md kn an xsm xfl x n v)))))]) (W1 := [(o0, .inr (6, [.ref a0, .ref b0])), (a0, .inr (1, [.ref a1, .ref a2, .ref a3, .ref a4, .ref a5])), (b0, .inr (1, [.ref b1, .ref b2, .ref b3, .ref b4, .ref b5])), (a1, .inr (3, [.ref n1, .ref n2])), (n1, .inl (cI, 8, .inl md)), (n2, .inl (cJ, 8, .inr (.inl kn))), (a2, .inr (4, [.ref p1, .ref p2, .ref p3])), (p1, .inl (cJ, 12, .inr (.inl an))), (p2, .inl (cJ, 12, .inr (.inl (f_aS md kn sm fl x n v)))), (p3, .inl (cI, 12, .inl (f_aF md kn fl x n))), (a3, .inr (5, [.ref t1])), (t1, .inl (cJ, 8, .inr (.inl (f_aT md kn tf fl x n)))), (a5, .inr (2, [.ref j1, .int (nI (f_js z)), .int (nI ((q + 1) % 64))])), (j1, .inl (cJ, 64, .inr (.inl (vp_updL rg q (f_aA md kn an sm fl x n v))))), (b1, .inr (3, [.ref xn1, .ref xn2])), (xn1, .inl (cI, 8, .inl md)), (xn2, .inl (cJ, 8, .inr (.inl kn))), (b2, .inr (4, [.ref xp1, .ref xp2, .ref xp3])), (xp1, .inl (cJ, 12, .inr (.inl an))), (xp2, .inl (cJ, 12, .inr (.inl (f_aS md kn xsm xfl x n v)))), (xp3, .inl (cI, 12, .inl (f_aF md kn xfl x n))), (b3, .inr (5, [.ref xt1])), (xt1, .inl (cJ, 8, .inr (.inl (f_aT md kn xtf xfl x n)))), (b5, .inr (2, [.ref xj1, .int (nI (f_js xz)), .int (nI ((xq + 1) % 64))])), (xj1, .inl (cJ, 64, .inr (.inl (vp_updL xrg xq (f_aA md kn an xsm xfl x n v)))))]) (st1 := [.long (f_aA md kn an sm fl x n v)]) ⟨hx, hb, hml, hown, hts⟩ (k_DK_ask l dC dI cI cJ cG cZ a0 a1 a2 a3 a4 a5 n1 n2 p1 p2 p3 t1 md kn an sm fl tf x n v j1 rg z q hg hlt hz hq) (cwV 3 hts (k_gV m_l_PD_87 m_i_DK_ask m_s_DK_ask m_in_DK m_c_DK_ask) rfl rfl rfl (by decide +kernel) ⟨Nat.le_of_ble_eq_true rfl, Nat.le_of_ble_eq_true rfl⟩) hK hF hP hD hS hA [1, 3, 4, 5, 6, 7, 8, 9, 10, 11, 12, 13] [0, 2, 14, 15, 16, 17, 18, 19, 20, 21, 22, 23, 24] [0, 13, 1, 14, 15, 16, 17, 18, 19, 20, 21, 22, 23, 24, 2, 3, 4, 5, 6, 7, 8, 9, 10, 11, 12] rfl rfl (by decide) (by decide) (by decide) rfl (by decide) rfl rfl rfl rfl hl.1 rfl (Nat.le_of_ble_eq_true rfl) dPD_call_18 ⟨Nat.le_of_ble_eq_true rfl, Nat.le_of_ble_eq_true rfl⟩ rfl (fun H locs hP hD hS => ?_)
  exact k_lret hx hb hr hlocks hP hK hD hS rfl dPD_call_21 ⟨Nat.le_of_ble_eq_true rfl, Nat.le_of_ble_eq_true rfl⟩
end
section
theorem f_ge4 {k : Nat} (h : k < 4) : ¬ (4 : Int32) ≤ nI k := fun h9 => absurd ((nI_leI (a := 4) (b := k) (by decide) (by omega)).mp h9) (by omega)
theorem f_out4 {x : Int32} (h : x < 0 ∨ (¬ x < 0 ∧ 4 ≤ x)) : x.toInt < 0 ∨ 3 < x.toInt := by
  have e0 : (0 : Int32).toInt = 0 := by decide
  have e4 : (4 : Int32).toInt = 4 := by decide
  rcases h with h | ⟨-, h⟩
  · left; rw [Int32.lt_iff_toInt_lt] at h; omega
  · right; rw [Int32.le_iff_toInt_le] at h; omega
theorem f_notfull {sz : Nat → Int32} {k n : Nat} (hn : sz k = nI n) (hn2 : n ≤ 100) (h : f_cfull sz k = 0) : n < 100 := by
  unfold f_cfull at h
  by_cases h8 : sz k < 100
  · rw [hn] at h8
    exact (n_lt (n := 100) rfl (by decide) (by omega)).mp h8
  · rw [if_neg h8] at h
    exact absurd h (by decide)
theorem f_ccs (sz : Nat → Int32) (x : Int32) (v : Int64) : (x < 0 ∨ (¬ x < 0 ∧ 4 ≤ x)) ∨ (∃ k : Nat, k < 4 ∧ x = nI k ∧ f_can k v = 0) ∨ (∃ k : Nat, k < 4 ∧ x = nI k ∧ ¬ f_can k v = 0 ∧ ¬ f_cfull sz k = 0) ∨ (∃ k : Nat, k < 4 ∧ k < 3 ∧ x = nI k ∧ ¬ f_can k v = 0 ∧ f_cfull sz k = 0) ∨ (x = nI 3 ∧ ¬ f_can 3 v = 0 ∧ f_cfull sz 3 = 0) := by
  by_cases h : x < 0
  · exact Or.inl (Or.inl h)
  · by_cases h1 : 4 ≤ x
    · exact Or.inl (Or.inr ⟨h, h1⟩)
    · obtain ⟨k, hk, rfl⟩ := f_range (n := 4) (by decide) h h1
      by_cases h2 : f_can k v = 0
      · exact Or.inr (Or.inl ⟨k, hk, rfl, h2⟩)
      · by_cases h3 : f_cfull sz k = 0
        · rcases Nat.lt_or_ge k 3 with h4 | h4
          · exact Or.inr (Or.inr (Or.inr (Or.inl ⟨k, hk, h4, rfl, h2, h3⟩)))
          · have e : k = 3 := by omega
            subst e
            exact Or.inr (Or.inr (Or.inr (Or.inr ⟨rfl, h2, h3⟩)))
        · exact Or.inr (Or.inr (Or.inl ⟨k, hk, rfl, h2, h3⟩))
abbrev rm_PD_collect : Room := { frames := 3, cells := 0, slots := 0, locals := 64 }
set_option maxHeartbeats 4000000 in
set_option maxRecDepth 100000 in
theorem k_PD_collect (l : Launch) (dC : Nat → ClassId) (dI : Nat → Nat → Nat) (cI cJ cG cZ : ClassId) (o0 : Nat) (a0 : Nat) (a1 : Nat) (a2 : Nat) (a3 : Nat) (a4 : Nat) (a5 : Nat) (b0 : Nat) (b1 : Nat) (b2 : Nat) (b3 : Nat) (b4 : Nat) (b5 : Nat) (n1 : Nat) (n2 : Nat) (m1 : Nat) (m2 : Nat) (c1 : Nat) (c2 : Nat) (g1 : Nat) (g2 : Nat) (r : Nat → Nat) (rr : Nat → Nat) (md : Nat → Int32) (kn : Nat → Int64) (sz : Nat → Int32) (vs : Nat → Nat → Int64) (ns : Nat → Nat) (x : Int32) (v : Int64) (hns : ∀ k : Nat, k < 4 → sz k = nI (ns k) ∧ ns k ≤ 100) : k_M l yPD_collect wsPD_collect rm_PD_collect (dC, dI) vwCl [(cI, .int), (cJ, .long), (cG, .array .long), (cZ, .boolean)] [.ref o0, .int x, .long v] [(o0, .inr (6, [.ref a0, .ref b0])), (a0, .inr (1, [.ref a1, .ref a2, .ref a3, .ref a4, .ref a5])), (b0, .inr (1, [.ref b1, .ref b2, .ref b3, .ref b4, .ref b5])), (a1, .inr (3, [.ref n1, .ref n2])), (n1, .inl (cI, 8, .inl md)), (n2, .inl (cJ, 8, .inr (.inl kn))), (b1, .inr (3, [.ref m1, .ref m2])), (m1, .inl (cI, 8, .inl md)), (m2, .inl (cJ, 8, .inr (.inl kn))), (a4, .inr (0, [.ref c1, .ref c2])), (c1, .inl (cI, 4, .inl sz)), (c2, .inl (cG, 4, .inr (.inr (.inr (.inr (f_rw r)))))), (r 0, .inl (cJ, 100, .inr (.inl (vs 0)))), (r 1, .inl (cJ, 100, .inr (.inl (vs 1)))), (r 2, .inl (cJ, 100, .inr (.inl (vs 2)))), (r 3, .inl (cJ, 100, .inr (.inl (vs 3)))), (b4, .inr (0, [.ref g1, .ref g2])), (g1, .inl (cI, 4, .inl sz)), (g2, .inl (cG, 4, .inr (.inr (.inr (.inr (f_rw rr)))))), (rr 0, .inl (cJ, 100, .inr (.inl (vs 0)))), (rr 1, .inl (cJ, 100, .inr (.inl (vs 1)))), (rr 2, .inl (cJ, 100, .inr (.inl (vs 2)))), (rr 3, .inl (cJ, 100, .inr (.inl (vs 3))))] (some (.int (f_coR sz x v))) [(o0, .inr (6, [.ref a0, .ref b0])), (a0, .inr (1, [.ref a1, .ref a2, .ref a3, .ref a4, .ref a5])), (b0, .inr (1, [.ref b1, .ref b2, .ref b3, .ref b4, .ref b5])), (a1, .inr (3, [.ref n1, .ref n2])), (n1, .inl (cI, 8, .inl (f_coM md sz x v))), (n2, .inl (cJ, 8, .inr (.inl (f_coK md kn sz x v)))), (b1, .inr (3, [.ref m1, .ref m2])), (m1, .inl (cI, 8, .inl (f_coM md sz x v))), (m2, .inl (cJ, 8, .inr (.inl (f_coK md kn sz x v)))), (a4, .inr (0, [.ref c1, .ref c2])), (c1, .inl (cI, 4, .inl (f_coZ sz x v))), (c2, .inl (cG, 4, .inr (.inr (.inr (.inr (f_rw r)))))), (r 0, .inl (cJ, 100, .inr (.inl ((f_coV sz vs x v) 0)))), (r 1, .inl (cJ, 100, .inr (.inl ((f_coV sz vs x v) 1)))), (r 2, .inl (cJ, 100, .inr (.inl ((f_coV sz vs x v) 2)))), (r 3, .inl (cJ, 100, .inr (.inl ((f_coV sz vs x v) 3)))), (b4, .inr (0, [.ref g1, .ref g2])), (g1, .inl (cI, 4, .inl (f_coZ sz x v))), (g2, .inl (cG, 4, .inr (.inr (.inr (.inr (f_rw rr)))))), (rr 0, .inl (cJ, 100, .inr (.inl ((f_coV sz vs x v) 0)))), (rr 1, .inl (cJ, 100, .inr (.inl ((f_coV sz vs x v) 1)))), (rr 2, .inl (cJ, 100, .inr (.inl ((f_coV sz vs x v) 2)))), (rr 3, .inl (cJ, 100, .inr (.inl ((f_coV sz vs x v) 3))))] := by
  rcases f_ccs sz x v with h0 | ⟨k, hk, rfl, h1⟩ | ⟨k, hk, rfl, h1, h2⟩ | ⟨k, hk, hk3, rfl, h1, h2⟩ | ⟨rfl, h1, h2⟩
  · have e1 : f_cc sz x v = 4 := by unfold f_cc; rcases h0 with h0 | ⟨h0, h1⟩; rw [if_pos h0]; rw [if_neg h0, if_pos h1]
    have hx0 : x.toInt < 0 ∨ 3 < x.toInt := f_out4 h0
    rw [show f_coM md sz x v = md by unfold f_coM; rw [e1]; rfl, show f_coK md kn sz x v = kn by unfold f_coK; rw [e1]; rfl, show f_coZ sz x v = sz from if_pos e1, show f_coV sz vs x v = vs from if_pos e1, show f_coR sz x v = -1 from if_pos e1]
    refine k_of (cc := cPD_collect) (maxL := 4) (ret := (some .int)) (by decide) rfl (Nat.le_of_ble_eq_true rfl) ?_
    intro p e s m below meth c A ls hx hb hr hlocks hml hown hts hA hP hD hK hF hl hS
    have hown : s.vm.findClass RPD = some m.cls := hown
    have hl : lv_has ls 4 [(0, .ref o0), (1, .int x), (2, .long v)] := hl
    refine lv_iload_n hx hb dPD_collect_0 rfl (lv_at hl 1 rfl) ?_
    refine lv_lload_n hx hb dPD_collect_1 rfl (lv_at hl 2 rfl) ?_
    refine k_S (wr := [(o0, .inr (6, [.ref a0, .ref b0])), (a0, .inr (1, [.ref a1, .ref a2, .ref a3, .ref a4, .ref a5])), (b0, .inr (1, [.ref b1, .ref b2, .ref b3, .ref b4, .ref b5])), (a1, .inr (3, [.ref n1, .ref n2])), (n1, .inl (cI, 8, .inl md)), (n2, .inl (cJ, 8, .inr (.inl kn))), (b1, .inr (3, [.ref m1, .ref m2])), (m1, .inl (cI, 8, .inl md)), (m2, .inl (cJ, 8, .inr (.inl kn))), (a4, .inr (0, [.ref c1, .ref c2])), (c1, .inl (cI, 4, .inl sz)), (c2, .inl (cG, 4, .inr (.inr (.inr (.inr (f_rw r)))))), (r 0, .inl (cJ, 100, .inr (.inl (vs 0)))), (r 1, .inl (cJ, 100, .inr (.inl (vs 1)))), (r 2, .inl (cJ, 100, .inr (.inl (vs 2)))), (r 3, .inl (cJ, 100, .inr (.inl (vs 3)))), (b4, .inr (0, [.ref g1, .ref g2])), (g1, .inl (cI, 4, .inl sz)), (g2, .inl (cG, 4, .inr (.inr (.inr (.inr (f_rw rr)))))), (rr 0, .inl (cJ, 100, .inr (.inl (vs 0)))), (rr 1, .inl (cJ, 100, .inr (.inl (vs 1)))), (rr 2, .inl (cJ, 100, .inr (.inl (vs 2)))), (rr 3, .inl (cJ, 100, .inr (.inl (vs 3))))]) (W1 := [(o0, .inr (6, [.ref a0, .ref b0])), (a0, .inr (1, [.ref a1, .ref a2, .ref a3, .ref a4, .ref a5])), (b0, .inr (1, [.ref b1, .ref b2, .ref b3, .ref b4, .ref b5])), (a1, .inr (3, [.ref n1, .ref n2])), (n1, .inl (cI, 8, .inl md)), (n2, .inl (cJ, 8, .inr (.inl kn))), (b1, .inr (3, [.ref m1, .ref m2])), (m1, .inl (cI, 8, .inl md)), (m2, .inl (cJ, 8, .inr (.inl kn))), (a4, .inr (0, [.ref c1, .ref c2])), (c1, .inl (cI, 4, .inl sz)), (c2, .inl (cG, 4, .inr (.inr (.inr (.inr (f_rw r)))))), (r 0, .inl (cJ, 100, .inr (.inl (vs 0)))), (r 1, .inl (cJ, 100, .inr (.inl (vs 1)))), (r 2, .inl (cJ, 100, .inr (.inl (vs 2)))), (r 3, .inl (cJ, 100, .inr (.inl (vs 3)))), (b4, .inr (0, [.ref g1, .ref g2])), (g1, .inl (cI, 4, .inl sz)), (g2, .inl (cG, 4, .inr (.inr (.inr (.inr (f_rw rr)))))), (rr 0, .inl (cJ, 100, .inr (.inl (vs 0)))), (rr 1, .inl (cJ, 100, .inr (.inl (vs 1)))), (rr 2, .inl (cJ, 100, .inr (.inl (vs 2)))), (rr 3, .inl (cJ, 100, .inr (.inl (vs 3))))]) (st1 := [.int 0]) ⟨hx, hb, hml, hown, hts⟩ (k_CV_canHold_no l dC dI cI cJ cG cZ x v hx0) (va_cwS 2 hts (k_gS m_l_PD_19 m_st_CV_canHold m_in_CV m_c_CV_canHold) rfl rfl rfl (by decide +kernel) ⟨Nat.le_of_ble_eq_true rfl, Nat.le_of_ble_eq_true rfl⟩) hK hF hP hD hS hA [] [0, 1, 2, 3, 4, 5, 6, 7, 8, 9, 10, 11, 12, 13, 14, 15, 16, 17, 18, 19, 20, 21, 22] [0, 1, 2, 3, 4, 5, 6, 7, 8, 9, 10, 11, 12, 13, 14, 15, 16, 17, 18, 19, 20, 21, 22] rfl rfl (by decide) (by decide) (by decide) rfl (by decide) rfl hl.1 rfl (Nat.le_of_ble_eq_true rfl) dPD_collect_2 ⟨Nat.le_of_ble_eq_true rfl, Nat.le_of_ble_eq_true rfl⟩ rfl (fun H locs hP hD hS => ?_)
    refine lv_if_eq (tgt := 22) hx hb dPD_collect_5 (by decide) (fun c_1 => ?_) (fun c_1 => ?_)
    · refine lv_iconst (v := (-1)) hx hb dPD_collect_22 (by decide) ?_
      exact k_iret hx hb hr hlocks hP hK hD hS rfl dPD_collect_23 ⟨Nat.le_of_ble_eq_true rfl, Nat.le_of_ble_eq_true rfl⟩
    · exact absurd (by decide) c_1
  · have e1 : f_cc sz (nI k) v = 4 := by unfold f_cc; rw [if_neg (f_nn (by omega)), if_neg (f_ge4 (by omega)), nI_clamp (by omega), if_pos h1]
    rw [show f_coM md sz (nI k) v = md by unfold f_coM; rw [e1]; rfl, show f_coK md kn sz (nI k) v = kn by unfold f_coK; rw [e1]; rfl, show f_coZ sz (nI k) v = sz from if_pos e1, show f_coV sz vs (nI k) v = vs from if_pos e1, show f_coR sz (nI k) v = -1 from if_pos e1]
    refine k_of (cc := cPD_collect) (maxL := 4) (ret := (some .int)) (by decide) rfl (Nat.le_of_ble_eq_true rfl) ?_
    intro p e s m below meth c A ls hx hb hr hlocks hml hown hts hA hP hD hK hF hl hS
    have hown : s.vm.findClass RPD = some m.cls := hown
    have hl : lv_has ls 4 [(0, .ref o0), (1, .int (nI k)), (2, .long v)] := hl
    refine lv_iload_n hx hb dPD_collect_0 rfl (lv_at hl 1 rfl) ?_
    refine lv_lload_n hx hb dPD_collect_1 rfl (lv_at hl 2 rfl) ?_
    refine k_S (wr := [(o0, .inr (6, [.ref a0, .ref b0])), (a0, .inr (1, [.ref a1, .ref a2, .ref a3, .ref a4, .ref a5])), (b0, .inr (1, [.ref b1, .ref b2, .ref b3, .ref b4, .ref b5])), (a1, .inr (3, [.ref n1, .ref n2])), (n1, .inl (cI, 8, .inl md)), (n2, .inl (cJ, 8, .inr (.inl kn))), (b1, .inr (3, [.ref m1, .ref m2])), (m1, .inl (cI, 8, .inl md)), (m2, .inl (cJ, 8, .inr (.inl kn))), (a4, .inr (0, [.ref c1, .ref c2])), (c1, .inl (cI, 4, .inl sz)), (c2, .inl (cG, 4, .inr (.inr (.inr (.inr (f_rw r)))))), (r 0, .inl (cJ, 100, .inr (.inl (vs 0)))), (r 1, .inl (cJ, 100, .inr (.inl (vs 1)))), (r 2, .inl (cJ, 100, .inr (.inl (vs 2)))), (r 3, .inl (cJ, 100, .inr (.inl (vs 3)))), (b4, .inr (0, [.ref g1, .ref g2])), (g1, .inl (cI, 4, .inl sz)), (g2, .inl (cG, 4, .inr (.inr (.inr (.inr (f_rw rr)))))), (rr 0, .inl (cJ, 100, .inr (.inl (vs 0)))), (rr 1, .inl (cJ, 100, .inr (.inl (vs 1)))), (rr 2, .inl (cJ, 100, .inr (.inl (vs 2)))), (rr 3, .inl (cJ, 100, .inr (.inl (vs 3))))]) (W1 := [(o0, .inr (6, [.ref a0, .ref b0])), (a0, .inr (1, [.ref a1, .ref a2, .ref a3, .ref a4, .ref a5])), (b0, .inr (1, [.ref b1, .ref b2, .ref b3, .ref b4, .ref b5])), (a1, .inr (3, [.ref n1, .ref n2])), (n1, .inl (cI, 8, .inl md)), (n2, .inl (cJ, 8, .inr (.inl kn))), (b1, .inr (3, [.ref m1, .ref m2])), (m1, .inl (cI, 8, .inl md)), (m2, .inl (cJ, 8, .inr (.inl kn))), (a4, .inr (0, [.ref c1, .ref c2])), (c1, .inl (cI, 4, .inl sz)), (c2, .inl (cG, 4, .inr (.inr (.inr (.inr (f_rw r)))))), (r 0, .inl (cJ, 100, .inr (.inl (vs 0)))), (r 1, .inl (cJ, 100, .inr (.inl (vs 1)))), (r 2, .inl (cJ, 100, .inr (.inl (vs 2)))), (r 3, .inl (cJ, 100, .inr (.inl (vs 3)))), (b4, .inr (0, [.ref g1, .ref g2])), (g1, .inl (cI, 4, .inl sz)), (g2, .inl (cG, 4, .inr (.inr (.inr (.inr (f_rw rr)))))), (rr 0, .inl (cJ, 100, .inr (.inl (vs 0)))), (rr 1, .inl (cJ, 100, .inr (.inl (vs 1)))), (rr 2, .inl (cJ, 100, .inr (.inl (vs 2)))), (rr 3, .inl (cJ, 100, .inr (.inl (vs 3))))]) (st1 := [.int (f_can k v)]) ⟨hx, hb, hml, hown, hts⟩ (k_CV_canHold l dC dI cI cJ cG cZ k v hk) (va_cwS 2 hts (k_gS m_l_PD_19 m_st_CV_canHold m_in_CV m_c_CV_canHold) rfl rfl rfl (by decide +kernel) ⟨Nat.le_of_ble_eq_true rfl, Nat.le_of_ble_eq_true rfl⟩) hK hF hP hD hS hA [] [0, 1, 2, 3, 4, 5, 6, 7, 8, 9, 10, 11, 12, 13, 14, 15, 16, 17, 18, 19, 20, 21, 22] [0, 1, 2, 3, 4, 5, 6, 7, 8, 9, 10, 11, 12, 13, 14, 15, 16, 17, 18, 19, 20, 21, 22] rfl rfl (by decide) (by decide) (by decide) rfl (by decide) rfl hl.1 rfl (Nat.le_of_ble_eq_true rfl) dPD_collect_2 ⟨Nat.le_of_ble_eq_true rfl, Nat.le_of_ble_eq_true rfl⟩ rfl (fun H locs hP hD hS => ?_)
    refine lv_if_eq (tgt := 22) hx hb dPD_collect_5 (by decide) (fun c_1 => ?_) (fun c_1 => ?_)
    · refine lv_iconst (v := (-1)) hx hb dPD_collect_22 (by decide) ?_
      exact k_iret hx hb hr hlocks hP hK hD hS rfl dPD_collect_23 ⟨Nat.le_of_ble_eq_true rfl, Nat.le_of_ble_eq_true rfl⟩
    · exact absurd h1 c_1
  · have e1 : f_cc sz (nI k) v = 4 := by unfold f_cc; rw [if_neg (f_nn (by omega)), if_neg (f_ge4 (by omega)), nI_clamp (by omega), if_neg h1, if_neg h2]
    rw [show f_coM md sz (nI k) v = md by unfold f_coM; rw [e1]; rfl, show f_coK md kn sz (nI k) v = kn by unfold f_coK; rw [e1]; rfl, show f_coZ sz (nI k) v = sz from if_pos e1, show f_coV sz vs (nI k) v = vs from if_pos e1, show f_coR sz (nI k) v = -1 from if_pos e1]
    refine k_of (cc := cPD_collect) (maxL := 4) (ret := (some .int)) (by decide) rfl (Nat.le_of_ble_eq_true rfl) ?_
    intro p e s m below meth c A ls hx hb hr hlocks hml hown hts hA hP hD hK hF hl hS
    have hown : s.vm.findClass RPD = some m.cls := hown
    have hl : lv_has ls 4 [(0, .ref o0), (1, .int (nI k)), (2, .long v)] := hl
    refine lv_iload_n hx hb dPD_collect_0 rfl (lv_at hl 1 rfl) ?_
    refine lv_lload_n hx hb dPD_collect_1 rfl (lv_at hl 2 rfl) ?_
    refine k_S (wr := [(o0, .inr (6, [.ref a0, .ref b0])), (a0, .inr (1, [.ref a1, .ref a2, .ref a3, .ref a4, .ref a5])), (b0, .inr (1, [.ref b1, .ref b2, .ref b3, .ref b4, .ref b5])), (a1, .inr (3, [.ref n1, .ref n2])), (n1, .inl (cI, 8, .inl md)), (n2, .inl (cJ, 8, .inr (.inl kn))), (b1, .inr (3, [.ref m1, .ref m2])), (m1, .inl (cI, 8, .inl md)), (m2, .inl (cJ, 8, .inr (.inl kn))), (a4, .inr (0, [.ref c1, .ref c2])), (c1, .inl (cI, 4, .inl sz)), (c2, .inl (cG, 4, .inr (.inr (.inr (.inr (f_rw r)))))), (r 0, .inl (cJ, 100, .inr (.inl (vs 0)))), (r 1, .inl (cJ, 100, .inr (.inl (vs 1)))), (r 2, .inl (cJ, 100, .inr (.inl (vs 2)))), (r 3, .inl (cJ, 100, .inr (.inl (vs 3)))), (b4, .inr (0, [.ref g1, .ref g2])), (g1, .inl (cI, 4, .inl sz)), (g2, .inl (cG, 4, .inr (.inr (.inr (.inr (f_rw rr)))))), (rr 0, .inl (cJ, 100, .inr (.inl (vs 0)))), (rr 1, .inl (cJ, 100, .inr (.inl (vs 1)))), (rr 2, .inl (cJ, 100, .inr (.inl (vs 2)))), (rr 3, .inl (cJ, 100, .inr (.inl (vs 3))))]) (W1 := [(o0, .inr (6, [.ref a0, .ref b0])), (a0, .inr (1, [.ref a1, .ref a2, .ref a3, .ref a4, .ref a5])), (b0, .inr (1, [.ref b1, .ref b2, .ref b3, .ref b4, .ref b5])), (a1, .inr (3, [.ref n1, .ref n2])), (n1, .inl (cI, 8, .inl md)), (n2, .inl (cJ, 8, .inr (.inl kn))), (b1, .inr (3, [.ref m1, .ref m2])), (m1, .inl (cI, 8, .inl md)), (m2, .inl (cJ, 8, .inr (.inl kn))), (a4, .inr (0, [.ref c1, .ref c2])), (c1, .inl (cI, 4, .inl sz)), (c2, .inl (cG, 4, .inr (.inr (.inr (.inr (f_rw r)))))), (r 0, .inl (cJ, 100, .inr (.inl (vs 0)))), (r 1, .inl (cJ, 100, .inr (.inl (vs 1)))), (r 2, .inl (cJ, 100, .inr (.inl (vs 2)))), (r 3, .inl (cJ, 100, .inr (.inl (vs 3)))), (b4, .inr (0, [.ref g1, .ref g2])), (g1, .inl (cI, 4, .inl sz)), (g2, .inl (cG, 4, .inr (.inr (.inr (.inr (f_rw rr)))))), (rr 0, .inl (cJ, 100, .inr (.inl (vs 0)))), (rr 1, .inl (cJ, 100, .inr (.inl (vs 1)))), (rr 2, .inl (cJ, 100, .inr (.inl (vs 2)))), (rr 3, .inl (cJ, 100, .inr (.inl (vs 3))))]) (st1 := [.int (f_can k v)]) ⟨hx, hb, hml, hown, hts⟩ (k_CV_canHold l dC dI cI cJ cG cZ k v hk) (va_cwS 2 hts (k_gS m_l_PD_19 m_st_CV_canHold m_in_CV m_c_CV_canHold) rfl rfl rfl (by decide +kernel) ⟨Nat.le_of_ble_eq_true rfl, Nat.le_of_ble_eq_true rfl⟩) hK hF hP hD hS hA [] [0, 1, 2, 3, 4, 5, 6, 7, 8, 9, 10, 11, 12, 13, 14, 15, 16, 17, 18, 19, 20, 21, 22] [0, 1, 2, 3, 4, 5, 6, 7, 8, 9, 10, 11, 12, 13, 14, 15, 16, 17, 18, 19, 20, 21, 22] rfl rfl (by decide) (by decide) (by decide) rfl (by decide) rfl hl.1 rfl (Nat.le_of_ble_eq_true rfl) dPD_collect_2 ⟨Nat.le_of_ble_eq_true rfl, Nat.le_of_ble_eq_true rfl⟩ rfl (fun H locs hP hD hS => ?_)
    refine lv_if_eq (tgt := 22) hx hb dPD_collect_5 (by decide) (fun c_1 => ?_) (fun c_1 => ?_)
    · exact absurd c_1 h1
    · refine lv_aload_n hx hb dPD_collect_8 rfl (lv_at hl 0 rfl) ?_
      refine va_get (D := (dC, dI)) (ci := 6) (v := .ref a0) (C := RPD) (T := TPD) (N := 2) hx hb hts inPD hown hK hP 0 rfl rfl 0 (by decide) (hts _ m_f_PD_10) (fun _ h9 => h9) rfl dPD_collect_9 ?_
      refine va_get (D := (dC, dI)) (ci := 1) (v := .ref a4) (C := RDK) (T := TDK) (N := 5) hx hb hts inDK hown hK hP 1 rfl rfl 3 (by decide) (hts _ m_f_PD_25) (fun _ h9 => h9) rfl dPD_collect_12 ?_
      refine lv_iload_n hx hb dPD_collect_15 rfl (lv_at hl 1 rfl) ?_
      refine k_V (wr := [(o0, .inr (6, [.ref a0, .ref b0])), (a0, .inr (1, [.ref a1, .ref a2, .ref a3, .ref a4, .ref a5])), (b0, .inr (1, [.ref b1, .ref b2, .ref b3, .ref b4, .ref b5])), (a1, .inr (3, [.ref n1, .ref n2])), (n1, .inl (cI, 8, .inl md)), (n2, .inl (cJ, 8, .inr (.inl kn))), (b1, .inr (3, [.ref m1, .ref m2])), (m1, .inl (cI, 8, .inl md)), (m2, .inl (cJ, 8, .inr (.inl kn))), (c2, .inl (cG, 4, .inr (.inr (.inr (.inr (f_rw r)))))), (r 0, .inl (cJ, 100, .inr (.inl (vs 0)))), (r 1, .inl (cJ, 100, .inr (.inl (vs 1)))), (r 2, .inl (cJ, 100, .inr (.inl (vs 2)))), (r 3, .inl (cJ, 100, .inr (.inl (vs 3)))), (b4, .inr (0, [.ref g1, .ref g2])), (g1, .inl (cI, 4, .inl sz)), (g2, .inl (cG, 4, .inr (.inr (.inr (.inr (f_rw rr)))))), (rr 0, .inl (cJ, 100, .inr (.inl (vs 0)))), (rr 1, .inl (cJ, 100, .inr (.inl (vs 1)))), (rr 2, .inl (cJ, 100, .inr (.inl (vs 2)))), (rr 3, .inl (cJ, 100, .inr (.inl (vs 3))))]) (W1 := [(o0, .inr (6, [.ref a0, .ref b0])), (a0, .inr (1, [.ref a1, .ref a2, .ref a3, .ref a4, .ref a5])), (b0, .inr (1, [.ref b1, .ref b2, .ref b3, .ref b4, .ref b5])), (a1, .inr (3, [.ref n1, .ref n2])), (n1, .inl (cI, 8, .inl md)), (n2, .inl (cJ, 8, .inr (.inl kn))), (b1, .inr (3, [.ref m1, .ref m2])), (m1, .inl (cI, 8, .inl md)), (m2, .inl (cJ, 8, .inr (.inl kn))), (a4, .inr (0, [.ref c1, .ref c2])), (c1, .inl (cI, 4, .inl sz)), (c2, .inl (cG, 4, .inr (.inr (.inr (.inr (f_rw r)))))), (r 0, .inl (cJ, 100, .inr (.inl (vs 0)))), (r 1, .inl (cJ, 100, .inr (.inl (vs 1)))), (r 2, .inl (cJ, 100, .inr (.inl (vs 2)))), (r 3, .inl (cJ, 100, .inr (.inl (vs 3)))), (b4, .inr (0, [.ref g1, .ref g2])), (g1, .inl (cI, 4, .inl sz)), (g2, .inl (cG, 4, .inr (.inr (.inr (.inr (f_rw rr)))))), (rr 0, .inl (cJ, 100, .inr (.inl (vs 0)))), (rr 1, .inl (cJ, 100, .inr (.inl (vs 1)))), (rr 2, .inl (cJ, 100, .inr (.inl (vs 2)))), (rr 3, .inl (cJ, 100, .inr (.inl (vs 3))))]) (st1 := [.int (f_cfull sz k)]) ⟨hx, hb, hml, hown, hts⟩ (k_CV_isFull l dC dI cI cJ cG cZ a4 c1 c2 sz k hk) (cwV 1 hts (k_gV m_l_PD_29 m_i_CV_isFull m_s_CV_isFull m_in_CV m_c_CV_isFull) rfl rfl rfl (by decide +kernel) ⟨Nat.le_of_ble_eq_true rfl, Nat.le_of_ble_eq_true rfl⟩) hK hF hP hD hS hA [9, 10] [0, 1, 2, 3, 4, 5, 6, 7, 8, 11, 12, 13, 14, 15, 16, 17, 18, 19, 20, 21, 22] [0, 1, 2, 3, 4, 5, 6, 7, 8, 21, 22, 9, 10, 11, 12, 13, 14, 15, 16, 17, 18, 19, 20] rfl rfl (by decide) (by decide) (by decide) rfl (by decide) rfl rfl rfl rfl hl.1 rfl (Nat.le_of_ble_eq_true rfl) dPD_collect_16 ⟨Nat.le_of_ble_eq_true rfl, Nat.le_of_ble_eq_true rfl⟩ rfl (fun H locs hP hD hS => ?_)
      refine lv_if_eq (tgt := 24) hx hb dPD_collect_19 (by decide) (fun c_2 => ?_) (fun c_2 => ?_)
      · exact absurd c_2 h2
      · refine lv_iconst (v := (-1)) hx hb dPD_collect_22 (by decide) ?_
        exact k_iret hx hb hr hlocks hP hK hD hS rfl dPD_collect_23 ⟨Nat.le_of_ble_eq_true rfl, Nat.le_of_ble_eq_true rfl⟩
  · obtain ⟨n, hn0⟩ : ∃ n, n = ns k := ⟨_, rfl⟩
    have hn : sz k = nI n := by rw [hn0]; exact (hns k hk).1
    have hn2 : n ≤ 100 := by rw [hn0]; exact (hns k hk).2
    have hn1 : n < 100 := f_notfull hn hn2 h2
    clear hn0
    have e1 : f_cc sz (nI k) v = k := by unfold f_cc; rw [if_neg (f_nn (by omega)), if_neg (f_ge4 (by omega)), nI_clamp (by omega), if_neg h1, if_pos h2]
    rw [show f_coM md sz (nI k) v = md by unfold f_coM; rw [e1, if_neg (by omega)], show f_coK md kn sz (nI k) v = kn by unfold f_coK; rw [e1, if_neg (by omega)]]
    rw [show f_coZ sz (nI k) v = upd sz k (nI n + 1) by unfold f_coZ; rw [e1, if_neg (by omega), hn], show f_coV sz vs (nI k) v = f_up vs k n v by unfold f_coV; rw [e1, if_neg (by omega), hn, nI_clamp (by omega)], show f_coR sz (nI k) v = nI n + 1 by unfold f_coR; rw [e1, if_neg (by omega), hn]]
    refine k_of (cc := cPD_collect) (maxL := 4) (ret := (some .int)) (by decide) rfl (Nat.le_of_ble_eq_true rfl) ?_
    intro p e s m below meth c A ls hx hb hr hlocks hml hown hts hA hP hD hK hF hl hS
    have hown : s.vm.findClass RPD = some m.cls := hown
    have hl : lv_has ls 4 [(0, .ref o0), (1, .int (nI k)), (2, .long v)] := hl
    refine lv_iload_n hx hb dPD_collect_0 rfl (lv_at hl 1 rfl) ?_
    refine lv_lload_n hx hb dPD_collect_1 rfl (lv_at hl 2 rfl) ?_
    refine k_S (wr := [(o0, .inr (6, [.ref a0, .ref b0])), (a0, .inr (1, [.ref a1, .ref a2, .ref a3, .ref a4, .ref a5])), (b0, .inr (1, [.ref b1, .ref b2, .ref b3, .ref b4, .ref b5])), (a1, .inr (3, [.ref n1, .ref n2])), (n1, .inl (cI, 8, .inl md)), (n2, .inl (cJ, 8, .inr (.inl kn))), (b1, .inr (3, [.ref m1, .ref m2])), (m1, .inl (cI, 8, .inl md)), (m2, .inl (cJ, 8, .inr (.inl kn))), (a4, .inr (0, [.ref c1, .ref c2])), (c1, .inl (cI, 4, .inl sz)), (c2, .inl (cG, 4, .inr (.inr (.inr (.inr (f_rw r)))))), (r 0, .inl (cJ, 100, .inr (.inl (vs 0)))), (r 1, .inl (cJ, 100, .inr (.inl (vs 1)))), (r 2, .inl (cJ, 100, .inr (.inl (vs 2)))), (r 3, .inl (cJ, 100, .inr (.inl (vs 3)))), (b4, .inr (0, [.ref g1, .ref g2])), (g1, .inl (cI, 4, .inl sz)), (g2, .inl (cG, 4, .inr (.inr (.inr (.inr (f_rw rr)))))), (rr 0, .inl (cJ, 100, .inr (.inl (vs 0)))), (rr 1, .inl (cJ, 100, .inr (.inl (vs 1)))), (rr 2, .inl (cJ, 100, .inr (.inl (vs 2)))), (rr 3, .inl (cJ, 100, .inr (.inl (vs 3))))]) (W1 := [(o0, .inr (6, [.ref a0, .ref b0])), (a0, .inr (1, [.ref a1, .ref a2, .ref a3, .ref a4, .ref a5])), (b0, .inr (1, [.ref b1, .ref b2, .ref b3, .ref b4, .ref b5])), (a1, .inr (3, [.ref n1, .ref n2])), (n1, .inl (cI, 8, .inl md)), (n2, .inl (cJ, 8, .inr (.inl kn))), (b1, .inr (3, [.ref m1, .ref m2])), (m1, .inl (cI, 8, .inl md)), (m2, .inl (cJ, 8, .inr (.inl kn))), (a4, .inr (0, [.ref c1, .ref c2])), (c1, .inl (cI, 4, .inl sz)), (c2, .inl (cG, 4, .inr (.inr (.inr (.inr (f_rw r)))))), (r 0, .inl (cJ, 100, .inr (.inl (vs 0)))), (r 1, .inl (cJ, 100, .inr (.inl (vs 1)))), (r 2, .inl (cJ, 100, .inr (.inl (vs 2)))), (r 3, .inl (cJ, 100, .inr (.inl (vs 3)))), (b4, .inr (0, [.ref g1, .ref g2])), (g1, .inl (cI, 4, .inl sz)), (g2, .inl (cG, 4, .inr (.inr (.inr (.inr (f_rw rr)))))), (rr 0, .inl (cJ, 100, .inr (.inl (vs 0)))), (rr 1, .inl (cJ, 100, .inr (.inl (vs 1)))), (rr 2, .inl (cJ, 100, .inr (.inl (vs 2)))), (rr 3, .inl (cJ, 100, .inr (.inl (vs 3))))]) (st1 := [.int (f_can k v)]) ⟨hx, hb, hml, hown, hts⟩ (k_CV_canHold l dC dI cI cJ cG cZ k v hk) (va_cwS 2 hts (k_gS m_l_PD_19 m_st_CV_canHold m_in_CV m_c_CV_canHold) rfl rfl rfl (by decide +kernel) ⟨Nat.le_of_ble_eq_true rfl, Nat.le_of_ble_eq_true rfl⟩) hK hF hP hD hS hA [] [0, 1, 2, 3, 4, 5, 6, 7, 8, 9, 10, 11, 12, 13, 14, 15, 16, 17, 18, 19, 20, 21, 22] [0, 1, 2, 3, 4, 5, 6, 7, 8, 9, 10, 11, 12, 13, 14, 15, 16, 17, 18, 19, 20, 21, 22] rfl rfl (by decide) (by decide) (by decide) rfl (by decide) rfl hl.1 rfl (Nat.le_of_ble_eq_true rfl) dPD_collect_2 ⟨Nat.le_of_ble_eq_true rfl, Nat.le_of_ble_eq_true rfl⟩ rfl (fun H locs hP hD hS => ?_)
    refine lv_if_eq (tgt := 22) hx hb dPD_collect_5 (by decide) (fun c_1 => ?_) (fun c_1 => ?_)
    · exact absurd c_1 h1
    · refine lv_aload_n hx hb dPD_collect_8 rfl (lv_at hl 0 rfl) ?_
      refine va_get (D := (dC, dI)) (ci := 6) (v := .ref a0) (C := RPD) (T := TPD) (N := 2) hx hb hts inPD hown hK hP 0 rfl rfl 0 (by decide) (hts _ m_f_PD_10) (fun _ h9 => h9) rfl dPD_collect_9 ?_
      refine va_get (D := (dC, dI)) (ci := 1) (v := .ref a4) (C := RDK) (T := TDK) (N := 5) hx hb hts inDK hown hK hP 1 rfl rfl 3 (by decide) (hts _ m_f_PD_25) (fun _ h9 => h9) rfl dPD_collect_12 ?_
      refine lv_iload_n hx hb dPD_collect_15 rfl (lv_at hl 1 rfl) ?_
      refine k_V (wr := [(o0, .inr (6, [.ref a0, .ref b0])), (a0, .inr (1, [.ref a1, .ref a2, .ref a3, .ref a4, .ref a5])), (b0, .inr (1, [.ref b1, .ref b2, .ref b3, .ref b4, .ref b5])), (a1, .inr (3, [.ref n1, .ref n2])), (n1, .inl (cI, 8, .inl md)), (n2, .inl (cJ, 8, .inr (.inl kn))), (b1, .inr (3, [.ref m1, .ref m2])), (m1, .inl (cI, 8, .inl md)), (m2, .inl (cJ, 8, .inr (.inl kn))), (c2, .inl (cG, 4, .inr (.inr (.inr (.inr (f_rw r)))))), (r 0, .inl (cJ, 100, .inr (.inl (vs 0)))), (r 1, .inl (cJ, 100, .inr (.inl (vs 1)))), (r 2, .inl (cJ, 100, .inr (.inl (vs 2)))), (r 3, .inl (cJ, 100, .inr (.inl (vs 3)))), (b4, .inr (0, [.ref g1, .ref g2])), (g1, .inl (cI, 4, .inl sz)), (g2, .inl (cG, 4, .inr (.inr (.inr (.inr (f_rw rr)))))), (rr 0, .inl (cJ, 100, .inr (.inl (vs 0)))), (rr 1, .inl (cJ, 100, .inr (.inl (vs 1)))), (rr 2, .inl (cJ, 100, .inr (.inl (vs 2)))), (rr 3, .inl (cJ, 100, .inr (.inl (vs 3))))]) (W1 := [(o0, .inr (6, [.ref a0, .ref b0])), (a0, .inr (1, [.ref a1, .ref a2, .ref a3, .ref a4, .ref a5])), (b0, .inr (1, [.ref b1, .ref b2, .ref b3, .ref b4, .ref b5])), (a1, .inr (3, [.ref n1, .ref n2])), (n1, .inl (cI, 8, .inl md)), (n2, .inl (cJ, 8, .inr (.inl kn))), (b1, .inr (3, [.ref m1, .ref m2])), (m1, .inl (cI, 8, .inl md)), (m2, .inl (cJ, 8, .inr (.inl kn))), (a4, .inr (0, [.ref c1, .ref c2])), (c1, .inl (cI, 4, .inl sz)), (c2, .inl (cG, 4, .inr (.inr (.inr (.inr (f_rw r)))))), (r 0, .inl (cJ, 100, .inr (.inl (vs 0)))), (r 1, .inl (cJ, 100, .inr (.inl (vs 1)))), (r 2, .inl (cJ, 100, .inr (.inl (vs 2)))), (r 3, .inl (cJ, 100, .inr (.inl (vs 3)))), (b4, .inr (0, [.ref g1, .ref g2])), (g1, .inl (cI, 4, .inl sz)), (g2, .inl (cG, 4, .inr (.inr (.inr (.inr (f_rw rr)))))), (rr 0, .inl (cJ, 100, .inr (.inl (vs 0)))), (rr 1, .inl (cJ, 100, .inr (.inl (vs 1)))), (rr 2, .inl (cJ, 100, .inr (.inl (vs 2)))), (rr 3, .inl (cJ, 100, .inr (.inl (vs 3))))]) (st1 := [.int (f_cfull sz k)]) ⟨hx, hb, hml, hown, hts⟩ (k_CV_isFull l dC dI cI cJ cG cZ a4 c1 c2 sz k hk) (cwV 1 hts (k_gV m_l_PD_29 m_i_CV_isFull m_s_CV_isFull m_in_CV m_c_CV_isFull) rfl rfl rfl (by decide +kernel) ⟨Nat.le_of_ble_eq_true rfl, Nat.le_of_ble_eq_true rfl⟩) hK hF hP hD hS hA [9, 10] [0, 1, 2, 3, 4, 5, 6, 7, 8, 11, 12, 13, 14, 15, 16, 17, 18, 19, 20, 21, 22] [0, 1, 2, 3, 4, 5, 6, 7, 8, 21, 22, 9, 10, 11, 12, 13, 14, 15, 16, 17, 18, 19, 20] rfl rfl (by decide) (by decide) (by decide) rfl (by decide) rfl rfl rfl rfl hl.1 rfl (Nat.le_of_ble_eq_true rfl) dPD_collect_16 ⟨Nat.le_of_ble_eq_true rfl, Nat.le_of_ble_eq_true rfl⟩ rfl (fun H locs hP hD hS => ?_)
      refine lv_if_eq (tgt := 24) hx hb dPD_collect_19 (by decide) (fun c_2 => ?_) (fun c_2 => ?_)
      · refine lv_aload_n hx hb dPD_collect_24 rfl (lv_at hl 0 rfl) ?_
        refine va_get (D := (dC, dI)) (ci := 6) (v := .ref b0) (C := RPD) (T := TPD) (N := 2) hx hb hts inPD hown hK hP 0 rfl rfl 1 (by decide) (hts _ m_f_PD_16) (fun _ h9 => h9) rfl dPD_collect_25 ?_
        refine lv_iload_n hx hb dPD_collect_28 rfl (lv_at hl 1 rfl) ?_
        refine lv_lload_n hx hb dPD_collect_29 rfl (lv_at hl 2 rfl) ?_
        refine k_V (wr := [(o0, .inr (6, [.ref a0, .ref b0])), (a0, .inr (1, [.ref a1, .ref a2, .ref a3, .ref a4, .ref a5])), (a1, .inr (3, [.ref n1, .ref n2])), (n1, .inl (cI, 8, .inl md)), (n2, .inl (cJ, 8, .inr (.inl kn))), (a4, .inr (0, [.ref c1, .ref c2])), (c1, .inl (cI, 4, .inl sz)), (c2, .inl (cG, 4, .inr (.inr (.inr (.inr (f_rw r)))))), (r 0, .inl (cJ, 100, .inr (.inl (vs 0)))), (r 1, .inl (cJ, 100, .inr (.inl (vs 1)))), (r 2, .inl (cJ, 100, .inr (.inl (vs 2)))), (r 3, .inl (cJ, 100, .inr (.inl (vs 3))))]) (W1 := [(o0, .inr (6, [.ref a0, .ref b0])), (a0, .inr (1, [.ref a1, .ref a2, .ref a3, .ref a4, .ref a5])), (b0, .inr (1, [.ref b1, .ref b2, .ref b3, .ref b4, .ref b5])), (a1, .inr (3, [.ref n1, .ref n2])), (n1, .inl (cI, 8, .inl md)), (n2, .inl (cJ, 8, .inr (.inl kn))), (b1, .inr (3, [.ref m1, .ref m2])), (m1, .inl (cI, 8, .inl md)), (m2, .inl (cJ, 8, .inr (.inl kn))), (a4, .inr (0, [.ref c1, .ref c2])), (c1, .inl (cI, 4, .inl sz)), (c2, .inl (cG, 4, .inr (.inr (.inr (.inr (f_rw r)))))), (r 0, .inl (cJ, 100, .inr (.inl (vs 0)))), (r 1, .inl (cJ, 100, .inr (.inl (vs 1)))), (r 2, .inl (cJ, 100, .inr (.inl (vs 2)))), (r 3, .inl (cJ, 100, .inr (.inl (vs 3)))), (b4, .inr (0, [.ref g1, .ref g2])), (g1, .inl (cI, 4, .inl (upd sz k (nI n + 1)))), (g2, .inl (cG, 4, .inr (.inr (.inr (.inr (f_rw rr)))))), (rr 0, .inl (cJ, 100, .inr (.inl (f_up vs k n v 0)))), (rr 1, .inl (cJ, 100, .inr (.inl (f_up vs k n v 1)))), (rr 2, .inl (cJ, 100, .inr (.inl (f_up vs k n v 2)))), (rr 3, .inl (cJ, 100, .inr (.inl (f_up vs k n v 3))))]) (st1 := [.int (nI n + 1)]) ⟨hx, hb, hml, hown, hts⟩ (k_DK_take l dC dI cI cJ cG cZ b0 b1 b2 b3 b4 b5 m1 m2 g1 g2 rr md kn sz vs k n v (by omega) hn hn1) (cwV 2 hts (k_gV m_l_PD_33 m_i_DK_take m_s_DK_take m_in_DK m_c_DK_take) rfl rfl rfl (by decide +kernel) ⟨Nat.le_of_ble_eq_true rfl, Nat.le_of_ble_eq_true rfl⟩) hK hF hP hD hS hA [2, 6, 7, 8, 16, 17, 18, 19, 20, 21, 22] [0, 1, 3, 4, 5, 9, 10, 11, 12, 13, 14, 15] [0, 1, 12, 2, 3, 4, 13, 14, 15, 5, 6, 7, 8, 9, 10, 11, 16, 17, 18, 19, 20, 21, 22] rfl rfl (by decide) (by decide) (by decide) rfl (by decide) rfl rfl rfl rfl hl.1 rfl (Nat.le_of_ble_eq_true rfl) dPD_collect_30 ⟨Nat.le_of_ble_eq_true rfl, Nat.le_of_ble_eq_true rfl⟩ rfl (fun H locs hP hD hS => ?_)
        refine lv_pop hx hb dPD_collect_33 rfl ?_
        refine lv_aload_n hx hb dPD_collect_34 rfl (lv_at hl 0 rfl) ?_
        refine va_get (D := (dC, dI)) (ci := 6) (v := .ref a0) (C := RPD) (T := TPD) (N := 2) hx hb hts inPD hown hK hP 0 rfl rfl 0 (by decide) (hts _ m_f_PD_10) (fun _ h9 => h9) rfl dPD_collect_35 ?_
        refine lv_iload_n hx hb dPD_collect_38 rfl (lv_at hl 1 rfl) ?_
        refine lv_lload_n hx hb dPD_collect_39 rfl (lv_at hl 2 rfl) ?_
        refine k_V (wr := [(o0, .inr (6, [.ref a0, .ref b0])), (b0, .inr (1, [.ref b1, .ref b2, .ref b3, .ref b4, .ref b5])), (b1, .inr (3, [.ref m1, .ref m2])), (m1, .inl (cI, 8, .inl md)), (m2, .inl (cJ, 8, .inr (.inl kn))), (b4, .inr (0, [.ref g1, .ref g2])), (g1, .inl (cI, 4, .inl (upd sz k (nI n + 1)))), (g2, .inl (cG, 4, .inr (.inr (.inr (.inr (f_rw rr)))))), (rr 0, .inl (cJ, 100, .inr (.inl (f_up vs k n v 0)))), (rr 1, .inl (cJ, 100, .inr (.inl (f_up vs k n v 1)))), (rr 2, .inl (cJ, 100, .inr (.inl (f_up vs k n v 2)))), (rr 3, .inl (cJ, 100, .inr (.inl (f_up vs k n v 3))))]) (W1 := [(o0, .inr (6, [.ref a0, .ref b0])), (a0, .inr (1, [.ref a1, .ref a2, .ref a3, .ref a4, .ref a5])), (b0, .inr (1, [.ref b1, .ref b2, .ref b3, .ref b4, .ref b5])), (a1, .inr (3, [.ref n1, .ref n2])), (n1, .inl (cI, 8, .inl md)), (n2, .inl (cJ, 8, .inr (.inl kn))), (b1, .inr (3, [.ref m1, .ref m2])), (m1, .inl (cI, 8, .inl md)), (m2, .inl (cJ, 8, .inr (.inl kn))), (a4, .inr (0, [.ref c1, .ref c2])), (c1, .inl (cI, 4, .inl (upd sz k (nI n + 1)))), (c2, .inl (cG, 4, .inr (.inr (.inr (.inr (f_rw r)))))), (r 0, .inl (cJ, 100, .inr (.inl (f_up vs k n v 0)))), (r 1, .inl (cJ, 100, .inr (.inl (f_up vs k n v 1)))), (r 2, .inl (cJ, 100, .inr (.inl (f_up vs k n v 2)))), (r 3, .inl (cJ, 100, .inr (.inl (f_up vs k n v 3)))), (b4, .inr (0, [.ref g1, .ref g2])), (g1, .inl (cI, 4, .inl (upd sz k (nI n + 1)))), (g2, .inl (cG, 4, .inr (.inr (.inr (.inr (f_rw rr)))))), (rr 0, .inl (cJ, 100, .inr (.inl (f_up vs k n v 0)))), (rr 1, .inl (cJ, 100, .inr (.inl (f_up vs k n v 1)))), (rr 2, .inl (cJ, 100, .inr (.inl (f_up vs k n v 2)))), (rr 3, .inl (cJ, 100, .inr (.inl (f_up vs k n v 3))))]) (st1 := [.int (nI n + 1)]) ⟨hx, hb, hml, hown, hts⟩ (k_DK_take l dC dI cI cJ cG cZ a0 a1 a2 a3 a4 a5 n1 n2 c1 c2 r md kn sz vs k n v (by omega) hn hn1) (cwV 2 hts (k_gV m_l_PD_33 m_i_DK_take m_s_DK_take m_in_DK m_c_DK_take) rfl rfl rfl (by decide +kernel) ⟨Nat.le_of_ble_eq_true rfl, Nat.le_of_ble_eq_true rfl⟩) hK hF hP hD hS hA [1, 3, 4, 5, 9, 10, 11, 12, 13, 14, 15] [0, 2, 6, 7, 8, 16, 17, 18, 19, 20, 21, 22] [0, 12, 1, 13, 14, 15, 2, 3, 4, 16, 17, 18, 19, 20, 21, 22, 5, 6, 7, 8, 9, 10, 11] rfl rfl (by decide) (by decide) (by decide) rfl (by decide) rfl rfl rfl rfl hl.1 rfl (Nat.le_of_ble_eq_true rfl) dPD_collect_40 ⟨Nat.le_of_ble_eq_true rfl, Nat.le_of_ble_eq_true rfl⟩ rfl (fun H locs hP hD hS => ?_)
        exact k_iret hx hb hr hlocks hP hK hD hS rfl dPD_collect_43 ⟨Nat.le_of_ble_eq_true rfl, Nat.le_of_ble_eq_true rfl⟩
      · exact absurd h2 c_2
  · obtain ⟨n, hn0⟩ : ∃ n, n = ns 3 := ⟨_, rfl⟩
    have hn : sz 3 = nI n := by rw [hn0]; exact (hns 3 (by decide)).1
    have hn2 : n ≤ 100 := by rw [hn0]; exact (hns 3 (by decide)).2
    have hn1 : n < 100 := f_notfull hn hn2 h2
    clear hn0
    have hk : 3 < 4 := by decide
    obtain ⟨j, hj, hv⟩ := f_can3_j (v := v) (fun h9 => h1 (by rw [show f_can 3 v = f_can3 v from rfl]; exact h9))
    have e1 : f_cc sz (nI 3) v = 3 := by unfold f_cc; rw [if_neg (f_nn (by omega)), if_neg (f_ge4 (by omega)), nI_clamp (by omega), if_neg h1, if_pos h2]
    rw [show f_coM md sz (nI 3) v = f_tM md j by unfold f_coM; rw [if_pos e1, hv, nI_clamp (by omega)], show f_coK md kn sz (nI 3) v = f_tK md kn j by unfold f_coK; rw [if_pos e1, hv, nI_clamp (by omega)]]
    rw [show f_coZ sz (nI 3) v = upd sz 3 (nI n + 1) by unfold f_coZ; rw [e1, if_neg (by omega), hn], show f_coV sz vs (nI 3) v = f_up vs 3 n v by unfold f_coV; rw [e1, if_neg (by omega), hn, nI_clamp (by omega)], show f_coR sz (nI 3) v = nI n + 1 by unfold f_coR; rw [e1, if_neg (by omega), hn]]
    refine k_of (cc := cPD_collect) (maxL := 4) (ret := (some .int)) (by decide) rfl (Nat.le_of_ble_eq_true rfl) ?_
    intro p e s m below meth c A ls hx hb hr hlocks hml hown hts hA hP hD hK hF hl hS
    have hown : s.vm.findClass RPD = some m.cls := hown
    have hl : lv_has ls 4 [(0, .ref o0), (1, .int (nI 3)), (2, .long v)] := hl
    refine lv_iload_n hx hb dPD_collect_0 rfl (lv_at hl 1 rfl) ?_
    refine lv_lload_n hx hb dPD_collect_1 rfl (lv_at hl 2 rfl) ?_
    refine k_S (wr := [(o0, .inr (6, [.ref a0, .ref b0])), (a0, .inr (1, [.ref a1, .ref a2, .ref a3, .ref a4, .ref a5])), (b0, .inr (1, [.ref b1, .ref b2, .ref b3, .ref b4, .ref b5])), (a1, .inr (3, [.ref n1, .ref n2])), (n1, .inl (cI, 8, .inl md)), (n2, .inl (cJ, 8, .inr (.inl kn))), (b1, .inr (3, [.ref m1, .ref m2])), (m1, .inl (cI, 8, .inl md)), (m2, .inl (cJ, 8, .inr (.inl kn))), (a4, .inr (0, [.ref c1, .ref c2])), (c1, .inl (cI, 4, .inl sz)), (c2, .inl (cG, 4, .inr (.inr (.inr (.inr (f_rw r)))))), (r 0, .inl (cJ, 100, .inr (.inl (vs 0)))), (r 1, .inl (cJ, 100, .inr (.inl (vs 1)))), (r 2, .inl (cJ, 100, .inr (.inl (vs 2)))), (r 3, .inl (cJ, 100, .inr (.inl (vs 3)))), (b4, .inr (0, [.ref g1, .ref g2])), (g1, .inl (cI, 4, .inl sz)), (g2, .inl (cG, 4, .inr (.inr (.inr (.inr (f_rw rr)))))), (rr 0, .inl (cJ, 100, .inr (.inl (vs 0)))), (rr 1, .inl (cJ, 100, .inr (.inl (vs 1)))), (rr 2, .inl (cJ, 100, .inr (.inl (vs 2)))), (rr 3, .inl (cJ, 100, .inr (.inl (vs 3))))]) (W1 := [(o0, .inr (6, [.ref a0, .ref b0])), (a0, .inr (1, [.ref a1, .ref a2, .ref a3, .ref a4, .ref a5])), (b0, .inr (1, [.ref b1, .ref b2, .ref b3, .ref b4, .ref b5])), (a1, .inr (3, [.ref n1, .ref n2])), (n1, .inl (cI, 8, .inl md)), (n2, .inl (cJ, 8, .inr (.inl kn))), (b1, .inr (3, [.ref m1, .ref m2])), (m1, .inl (cI, 8, .inl md)), (m2, .inl (cJ, 8, .inr (.inl kn))), (a4, .inr (0, [.ref c1, .ref c2])), (c1, .inl (cI, 4, .inl sz)), (c2, .inl (cG, 4, .inr (.inr (.inr (.inr (f_rw r)))))), (r 0, .inl (cJ, 100, .inr (.inl (vs 0)))), (r 1, .inl (cJ, 100, .inr (.inl (vs 1)))), (r 2, .inl (cJ, 100, .inr (.inl (vs 2)))), (r 3, .inl (cJ, 100, .inr (.inl (vs 3)))), (b4, .inr (0, [.ref g1, .ref g2])), (g1, .inl (cI, 4, .inl sz)), (g2, .inl (cG, 4, .inr (.inr (.inr (.inr (f_rw rr)))))), (rr 0, .inl (cJ, 100, .inr (.inl (vs 0)))), (rr 1, .inl (cJ, 100, .inr (.inl (vs 1)))), (rr 2, .inl (cJ, 100, .inr (.inl (vs 2)))), (rr 3, .inl (cJ, 100, .inr (.inl (vs 3))))]) (st1 := [.int (f_can 3 v)]) ⟨hx, hb, hml, hown, hts⟩ (k_CV_canHold l dC dI cI cJ cG cZ 3 v hk) (va_cwS 2 hts (k_gS m_l_PD_19 m_st_CV_canHold m_in_CV m_c_CV_canHold) rfl rfl rfl (by decide +kernel) ⟨Nat.le_of_ble_eq_true rfl, Nat.le_of_ble_eq_true rfl⟩) hK hF hP hD hS hA [] [0, 1, 2, 3, 4, 5, 6, 7, 8, 9, 10, 11, 12, 13, 14, 15, 16, 17, 18, 19, 20, 21, 22] [0, 1, 2, 3, 4, 5, 6, 7, 8, 9, 10, 11, 12, 13, 14, 15, 16, 17, 18, 19, 20, 21, 22] rfl rfl (by decide) (by decide) (by decide) rfl (by decide) rfl hl.1 rfl (Nat.le_of_ble_eq_true rfl) dPD_collect_2 ⟨Nat.le_of_ble_eq_true rfl, Nat.le_of_ble_eq_true rfl⟩ rfl (fun H locs hP hD hS => ?_)
    refine lv_if_eq (tgt := 22) hx hb dPD_collect_5 (by decide) (fun c_1 => ?_) (fun c_1 => ?_)
    · exact absurd c_1 h1
    · refine lv_aload_n hx hb dPD_collect_8 rfl (lv_at hl 0 rfl) ?_
      refine va_get (D := (dC, dI)) (ci := 6) (v := .ref a0) (C := RPD) (T := TPD) (N := 2) hx hb hts inPD hown hK hP 0 rfl rfl 0 (by decide) (hts _ m_f_PD_10) (fun _ h9 => h9) rfl dPD_collect_9 ?_
      refine va_get (D := (dC, dI)) (ci := 1) (v := .ref a4) (C := RDK) (T := TDK) (N := 5) hx hb hts inDK hown hK hP 1 rfl rfl 3 (by decide) (hts _ m_f_PD_25) (fun _ h9 => h9) rfl dPD_collect_12 ?_
      refine lv_iload_n hx hb dPD_collect_15 rfl (lv_at hl 1 rfl) ?_
      refine k_V (wr := [(o0, .inr (6, [.ref a0, .ref b0])), (a0, .inr (1, [.ref a1, .ref a2, .ref a3, .ref a4, .ref a5])), (b0, .inr (1, [.ref b1, .ref b2, .ref b3, .ref b4, .ref b5])), (a1, .inr (3, [.ref n1, .ref n2])), (n1, .inl (cI, 8, .inl md)), (n2, .inl (cJ, 8, .inr (.inl kn))), (b1, .inr (3, [.ref m1, .ref m2])), (m1, .inl (cI, 8, .inl md)), (m2, .inl (cJ, 8, .inr (.inl kn))), (c2, .inl (cG, 4, .inr (.inr (.inr (.inr (f_rw r)))))), (r 0, .inl (cJ, 100, .inr (.inl (vs 0)))), (r 1, .inl (cJ, 100, .inr (.inl (vs 1)))), (r 2, .inl (cJ, 100, .inr (.inl (vs 2)))), (r 3, .inl (cJ, 100, .inr (.inl (vs 3)))), (b4, .inr (0, [.ref g1, .ref g2])), (g1, .inl (cI, 4, .inl sz)), (g2, .inl (cG, 4, .inr (.inr (.inr (.inr (f_rw rr)))))), (rr 0, .inl (cJ, 100, .inr (.inl (vs 0)))), (rr 1, .inl (cJ, 100, .inr (.inl (vs 1)))), (rr 2, .inl (cJ, 100, .inr (.inl (vs 2)))), (rr 3, .inl (cJ, 100, .inr (.inl (vs 3))))]) (W1 := [(o0, .inr (6, [.ref a0, .ref b0])), (a0, .inr (1, [.ref a1, .ref a2, .ref a3, .ref a4, .ref a5])), (b0, .inr (1, [.ref b1, .ref b2, .ref b3, .ref b4, .ref b5])), (a1, .inr (3, [.ref n1, .ref n2])), (n1, .inl (cI, 8, .inl md)), (n2, .inl (cJ, 8, .inr (.inl kn))), (b1, .inr (3, [.ref m1, .ref m2])), (m1, .inl (cI, 8, .inl md)), (m2, .inl (cJ, 8, .inr (.inl kn))), (a4, .inr (0, [.ref c1, .ref c2])), (c1, .inl (cI, 4, .inl sz)), (c2, .inl (cG, 4, .inr (.inr (.inr (.inr (f_rw r)))))), (r 0, .inl (cJ, 100, .inr (.inl (vs 0)))), (r 1, .inl (cJ, 100, .inr (.inl (vs 1)))), (r 2, .inl (cJ, 100, .inr (.inl (vs 2)))), (r 3, .inl (cJ, 100, .inr (.inl (vs 3)))), (b4, .inr (0, [.ref g1, .ref g2])), (g1, .inl (cI, 4, .inl sz)), (g2, .inl (cG, 4, .inr (.inr (.inr (.inr (f_rw rr)))))), (rr 0, .inl (cJ, 100, .inr (.inl (vs 0)))), (rr 1, .inl (cJ, 100, .inr (.inl (vs 1)))), (rr 2, .inl (cJ, 100, .inr (.inl (vs 2)))), (rr 3, .inl (cJ, 100, .inr (.inl (vs 3))))]) (st1 := [.int (f_cfull sz 3)]) ⟨hx, hb, hml, hown, hts⟩ (k_CV_isFull l dC dI cI cJ cG cZ a4 c1 c2 sz 3 (by decide)) (cwV 1 hts (k_gV m_l_PD_29 m_i_CV_isFull m_s_CV_isFull m_in_CV m_c_CV_isFull) rfl rfl rfl (by decide +kernel) ⟨Nat.le_of_ble_eq_true rfl, Nat.le_of_ble_eq_true rfl⟩) hK hF hP hD hS hA [9, 10] [0, 1, 2, 3, 4, 5, 6, 7, 8, 11, 12, 13, 14, 15, 16, 17, 18, 19, 20, 21, 22] [0, 1, 2, 3, 4, 5, 6, 7, 8, 21, 22, 9, 10, 11, 12, 13, 14, 15, 16, 17, 18, 19, 20] rfl rfl (by decide) (by decide) (by decide) rfl (by decide) rfl rfl rfl rfl hl.1 rfl (Nat.le_of_ble_eq_true rfl) dPD_collect_16 ⟨Nat.le_of_ble_eq_true rfl, Nat.le_of_ble_eq_true rfl⟩ rfl (fun H locs hP hD hS => ?_)
      refine lv_if_eq (tgt := 24) hx hb dPD_collect_19 (by decide) (fun c_2 => ?_) (fun c_2 => ?_)
      · refine lv_aload_n hx hb dPD_collect_24 rfl (lv_at hl 0 rfl) ?_
        refine va_get (D := (dC, dI)) (ci := 6) (v := .ref b0) (C := RPD) (T := TPD) (N := 2) hx hb hts inPD hown hK hP 0 rfl rfl 1 (by decide) (hts _ m_f_PD_16) (fun _ h9 => h9) rfl dPD_collect_25 ?_
        refine lv_iload_n hx hb dPD_collect_28 rfl (lv_at hl 1 rfl) ?_
        refine lv_lload_n hx hb dPD_collect_29 rfl (lv_at hl 2 rfl) ?_
        refine k_V (wr := [(o0, .inr (6, [.ref a0, .ref b0])), (a0, .inr (1, [.ref a1, .ref a2, .ref a3, .ref a4, .ref a5])), (a1, .inr (3, [.ref n1, .ref n2])), (n1, .inl (cI, 8, .inl md)), (n2, .inl (cJ, 8, .inr (.inl kn))), (a4, .inr (0, [.ref c1, .ref c2])), (c1, .inl (cI, 4, .inl sz)), (c2, .inl (cG, 4, .inr (.inr (.inr (.inr (f_rw r)))))), (r 0, .inl (cJ, 100, .inr (.inl (vs 0)))), (r 1, .inl (cJ, 100, .inr (.inl (vs 1)))), (r 2, .inl (cJ, 100, .inr (.inl (vs 2)))), (r 3, .inl (cJ, 100, .inr (.inl (vs 3))))]) (W1 := [(o0, .inr (6, [.ref a0, .ref b0])), (a0, .inr (1, [.ref a1, .ref a2, .ref a3, .ref a4, .ref a5])), (b0, .inr (1, [.ref b1, .ref b2, .ref b3, .ref b4, .ref b5])), (a1, .inr (3, [.ref n1, .ref n2])), (n1, .inl (cI, 8, .inl md)), (n2, .inl (cJ, 8, .inr (.inl kn))), (b1, .inr (3, [.ref m1, .ref m2])), (m1, .inl (cI, 8, .inl (f_tM md j))), (m2, .inl (cJ, 8, .inr (.inl (f_tK md kn j)))), (a4, .inr (0, [.ref c1, .ref c2])), (c1, .inl (cI, 4, .inl sz)), (c2, .inl (cG, 4, .inr (.inr (.inr (.inr (f_rw r)))))), (r 0, .inl (cJ, 100, .inr (.inl (vs 0)))), (r 1, .inl (cJ, 100, .inr (.inl (vs 1)))), (r 2, .inl (cJ, 100, .inr (.inl (vs 2)))), (r 3, .inl (cJ, 100, .inr (.inl (vs 3)))), (b4, .inr (0, [.ref g1, .ref g2])), (g1, .inl (cI, 4, .inl (upd sz 3 (nI n + 1)))), (g2, .inl (cG, 4, .inr (.inr (.inr (.inr (f_rw rr)))))), (rr 0, .inl (cJ, 100, .inr (.inl (f_up vs 3 n v 0)))), (rr 1, .inl (cJ, 100, .inr (.inl (f_up vs 3 n v 1)))), (rr 2, .inl (cJ, 100, .inr (.inl (f_up vs 3 n v 2)))), (rr 3, .inl (cJ, 100, .inr (.inl (f_up vs 3 n v 3))))]) (st1 := [.int (nI n + 1)]) ⟨hx, hb, hml, hown, hts⟩ (k_DK_take_3 l dC dI cI cJ cG cZ b0 b1 b2 b3 b4 b5 m1 m2 g1 g2 rr md kn sz vs n j v hn hn1 hj hv) (cwV 2 hts (k_gV m_l_PD_33 m_i_DK_take m_s_DK_take m_in_DK m_c_DK_take) rfl rfl rfl (by decide +kernel) ⟨Nat.le_of_ble_eq_true rfl, Nat.le_of_ble_eq_true rfl⟩) hK hF hP hD hS hA [2, 6, 7, 8, 16, 17, 18, 19, 20, 21, 22] [0, 1, 3, 4, 5, 9, 10, 11, 12, 13, 14, 15] [0, 1, 12, 2, 3, 4, 13, 14, 15, 5, 6, 7, 8, 9, 10, 11, 16, 17, 18, 19, 20, 21, 22] rfl rfl (by decide) (by decide) (by decide) rfl (by decide) rfl rfl rfl rfl hl.1 rfl (Nat.le_of_ble_eq_true rfl) dPD_collect_30 ⟨Nat.le_of_ble_eq_true rfl, Nat.le_of_ble_eq_true rfl⟩ rfl (fun H locs hP hD hS => ?_)
        refine lv_pop hx hb dPD_collect_33 rfl ?_
        refine lv_aload_n hx hb dPD_collect_34 rfl (lv_at hl 0 rfl) ?_
        refine va_get (D := (dC, dI)) (ci := 6) (v := .ref a0) (C := RPD) (T := TPD) (N := 2) hx hb hts inPD hown hK hP 0 rfl rfl 0 (by decide) (hts _ m_f_PD_10) (fun _ h9 => h9) rfl dPD_collect_35 ?_
        refine lv_iload_n hx hb dPD_collect_38 rfl (lv_at hl 1 rfl) ?_
        refine lv_lload_n hx hb dPD_collect_39 rfl (lv_at hl 2 rfl) ?_
        refine k_V (wr := [(o0, .inr (6, [.ref a0, .ref b0])), (b0, .inr (1, [.ref b1, .ref b2, .ref b3, .ref b4, .ref b5])), (b1, .inr (3, [.ref m1, .ref m2])), (m1, .inl (cI, 8, .inl (f_tM md j))), (m2, .inl (cJ, 8, .inr (.inl (f_tK md kn j)))), (b4, .inr (0, [.ref g1, .ref g2])), (g1, .inl (cI, 4, .inl (upd sz 3 (nI n + 1)))), (g2, .inl (cG, 4, .inr (.inr (.inr (.inr (f_rw rr)))))), (rr 0, .inl (cJ, 100, .inr (.inl (f_up vs 3 n v 0)))), (rr 1, .inl (cJ, 100, .inr (.inl (f_up vs 3 n v 1)))), (rr 2, .inl (cJ, 100, .inr (.inl (f_up vs 3 n v 2)))), (rr 3, .inl (cJ, 100, .inr (.inl (f_up vs 3 n v 3))))]) (W1 := [(o0, .inr (6, [.ref a0, .ref b0])), (a0, .inr (1, [.ref a1, .ref a2, .ref a3, .ref a4, .ref a5])), (b0, .inr (1, [.ref b1, .ref b2, .ref b3, .ref b4, .ref b5])), (a1, .inr (3, [.ref n1, .ref n2])), (n1, .inl (cI, 8, .inl (f_tM md j))), (n2, .inl (cJ, 8, .inr (.inl (f_tK md kn j)))), (b1, .inr (3, [.ref m1, .ref m2])), (m1, .inl (cI, 8, .inl (f_tM md j))), (m2, .inl (cJ, 8, .inr (.inl (f_tK md kn j)))), (a4, .inr (0, [.ref c1, .ref c2])), (c1, .inl (cI, 4, .inl (upd sz 3 (nI n + 1)))), (c2, .inl (cG, 4, .inr (.inr (.inr (.inr (f_rw r)))))), (r 0, .inl (cJ, 100, .inr (.inl (f_up vs 3 n v 0)))), (r 1, .inl (cJ, 100, .inr (.inl (f_up vs 3 n v 1)))), (r 2, .inl (cJ, 100, .inr (.inl (f_up vs 3 n v 2)))), (r 3, .inl (cJ, 100, .inr (.inl (f_up vs 3 n v 3)))), (b4, .inr (0, [.ref g1, .ref g2])), (g1, .inl (cI, 4, .inl (upd sz 3 (nI n + 1)))), (g2, .inl (cG, 4, .inr (.inr (.inr (.inr (f_rw rr)))))), (rr 0, .inl (cJ, 100, .inr (.inl (f_up vs 3 n v 0)))), (rr 1, .inl (cJ, 100, .inr (.inl (f_up vs 3 n v 1)))), (rr 2, .inl (cJ, 100, .inr (.inl (f_up vs 3 n v 2)))), (rr 3, .inl (cJ, 100, .inr (.inl (f_up vs 3 n v 3))))]) (st1 := [.int (nI n + 1)]) ⟨hx, hb, hml, hown, hts⟩ (k_DK_take_3 l dC dI cI cJ cG cZ a0 a1 a2 a3 a4 a5 n1 n2 c1 c2 r md kn sz vs n j v hn hn1 hj hv) (cwV 2 hts (k_gV m_l_PD_33 m_i_DK_take m_s_DK_take m_in_DK m_c_DK_take) rfl rfl rfl (by decide +kernel) ⟨Nat.le_of_ble_eq_true rfl, Nat.le_of_ble_eq_true rfl⟩) hK hF hP hD hS hA [1, 3, 4, 5, 9, 10, 11, 12, 13, 14, 15] [0, 2, 6, 7, 8, 16, 17, 18, 19, 20, 21, 22] [0, 12, 1, 13, 14, 15, 2, 3, 4, 16, 17, 18, 19, 20, 21, 22, 5, 6, 7, 8, 9, 10, 11] rfl rfl (by decide) (by decide) (by decide) rfl (by decide) rfl rfl rfl rfl hl.1 rfl (Nat.le_of_ble_eq_true rfl) dPD_collect_40 ⟨Nat.le_of_ble_eq_true rfl, Nat.le_of_ble_eq_true rfl⟩ rfl (fun H locs hP hD hS => ?_)
        exact k_iret hx hb hr hlocks hP hK hD hS rfl dPD_collect_43 ⟨Nat.le_of_ble_eq_true rfl, Nat.le_of_ble_eq_true rfl⟩
      · exact absurd h2 c_2
end
section
theorem f_nar {P : Prop} [Decidable P] : narrow .boolean (.int (if P then 1 else 0)) = .int (if P then 1 else 0) := by split <;> rfl
abbrev rm_PD_same : Room := { frames := 3, cells := 0, slots := 0, locals := 64 }
set_option maxHeartbeats 4000000 in
set_option maxRecDepth 100000 in
theorem k_PD_same (l : Launch) (dC : Nat → ClassId) (dI : Nat → Nat → Nat) (cI cJ cG cZ : ClassId) (o0 : Nat) (a0 : Nat) (a1 : Nat) (a2 : Nat) (a3 : Nat) (a4 : Nat) (a5 : Nat) (n1 : Nat) (n2 : Nat) (p1 : Nat) (p2 : Nat) (p3 : Nat) (t1 : Nat) (c1 : Nat) (c2 : Nat) (j1 : Nat) (r : Nat → Nat) (sm : Nat → Int64) (fl : Nat → Int32) (tf : Nat → Int64) (rg : Nat → Int64) (z : Nat) (q : Nat) (b0 : Nat) (b1 : Nat) (b2 : Nat) (b3 : Nat) (b4 : Nat) (b5 : Nat) (xn1 : Nat) (xn2 : Nat) (xp1 : Nat) (xp2 : Nat) (xp3 : Nat) (xt1 : Nat) (xc1 : Nat) (xc2 : Nat) (xj1 : Nat) (xr : Nat → Nat) (xsm : Nat → Int64) (xfl : Nat → Int32) (xtf : Nat → Int64) (xrg : Nat → Int64) (xz : Nat) (xq : Nat) (md : Nat → Int32) (kn : Nat → Int64) (an : Nat → Int64) (sz : Nat → Int32) (vs : Nat → Nat → Int64) (ns : Nat → Nat) (hns : ∀ k : Nat, k < 4 → sz k = nI (ns k) ∧ ns k ≤ 100) (hz : z ≤ 64) (hq : q < 64) (hz2 : xz ≤ 64) (hq2 : xq < 64) : k_M l yPD_same wsPD_same rm_PD_same (dC, dI) vwCl [(cI, .int), (cJ, .long), (cG, .array .long), (cZ, .boolean)] [.ref o0] [(o0, .inr (6, [.ref a0, .ref b0])), (a0, .inr (1, [.ref a1, .ref a2, .ref a3, .ref a4, .ref a5])), (a1, .inr (3, [.ref n1, .ref n2])), (n1, .inl (cI, 8, .inl md)), (n2, .inl (cJ, 8, .inr (.inl kn))), (a2, .inr (4, [.ref p1, .ref p2, .ref p3])), (p1, .inl (cJ, 12, .inr (.inl an))), (p2, .inl (cJ, 12, .inr (.inl sm))), (p3, .inl (cI, 12, .inl fl)), (a3, .inr (5, [.ref t1])), (t1, .inl (cJ, 8, .inr (.inl tf))), (a4, .inr (0, [.ref c1, .ref c2])), (c1, .inl (cI, 4, .inl sz)), (c2, .inl (cG, 4, .inr (.inr (.inr (.inr (f_rw r)))))), (r 0, .inl (cJ, 100, .inr (.inl (vs 0)))), (r 1, .inl (cJ, 100, .inr (.inl (vs 1)))), (r 2, .inl (cJ, 100, .inr (.inl (vs 2)))), (r 3, .inl (cJ, 100, .inr (.inl (vs 3)))), (a5, .inr (2, [.ref j1, .int (nI z), .int (nI q)])), (j1, .inl (cJ, 64, .inr (.inl rg))), (b0, .inr (1, [.ref b1, .ref b2, .ref b3, .ref b4, .ref b5])), (b1, .inr (3, [.ref xn1, .ref xn2])), (xn1, .inl (cI, 8, .inl md)), (xn2, .inl (cJ, 8, .inr (.inl kn))), (b2, .inr (4, [.ref xp1, .ref xp2, .ref xp3])), (xp1, .inl (cJ, 12, .inr (.inl an))), (xp2, .inl (cJ, 12, .inr (.inl xsm))), (xp3, .inl (cI, 12, .inl xfl)), (b3, .inr (5, [.ref xt1])), (xt1, .inl (cJ, 8, .inr (.inl xtf))), (b4, .inr (0, [.ref xc1, .ref xc2])), (xc1, .inl (cI, 4, .inl sz)), (xc2, .inl (cG, 4, .inr (.inr (.inr (.inr (f_rw xr)))))), (xr 0, .inl (cJ, 100, .inr (.inl (vs 0)))), (xr 1, .inl (cJ, 100, .inr (.inl (vs 1)))), (xr 2, .inl (cJ, 100, .inr (.inl (vs 2)))), (xr 3, .inl (cJ, 100, .inr (.inl (vs 3)))), (b5, .inr (2, [.ref xj1, .int (nI xz), .int (nI xq)])), (xj1, .inl (cJ, 64, .inr (.inl xrg)))] (some (.int (if (∀ j : Nat, j < 12 → sm j = xsm j) ∧ (z = xz ∧ ∀ j : Nat, j < z → rg (f_ix q z j) = xrg (f_ix xq xz j)) ∧ (∀ j : Nat, j < 8 → tf j = xtf j) then 1 else 0))) [(o0, .inr (6, [.ref a0, .ref b0])), (a0, .inr (1, [.ref a1, .ref a2, .ref a3, .ref a4, .ref a5])), (a1, .inr (3, [.ref n1, .ref n2])), (n1, .inl (cI, 8, .inl md)), (n2, .inl (cJ, 8, .inr (.inl kn))), (a2, .inr (4, [.ref p1, .ref p2, .ref p3])), (p1, .inl (cJ, 12, .inr (.inl an))), (p2, .inl (cJ, 12, .inr (.inl sm))), (p3, .inl (cI, 12, .inl fl)), (a3, .inr (5, [.ref t1])), (t1, .inl (cJ, 8, .inr (.inl tf))), (a4, .inr (0, [.ref c1, .ref c2])), (c1, .inl (cI, 4, .inl sz)), (c2, .inl (cG, 4, .inr (.inr (.inr (.inr (f_rw r)))))), (r 0, .inl (cJ, 100, .inr (.inl (vs 0)))), (r 1, .inl (cJ, 100, .inr (.inl (vs 1)))), (r 2, .inl (cJ, 100, .inr (.inl (vs 2)))), (r 3, .inl (cJ, 100, .inr (.inl (vs 3)))), (a5, .inr (2, [.ref j1, .int (nI z), .int (nI q)])), (j1, .inl (cJ, 64, .inr (.inl rg))), (b0, .inr (1, [.ref b1, .ref b2, .ref b3, .ref b4, .ref b5])), (b1, .inr (3, [.ref xn1, .ref xn2])), (xn1, .inl (cI, 8, .inl md)), (xn2, .inl (cJ, 8, .inr (.inl kn))), (b2, .inr (4, [.ref xp1, .ref xp2, .ref xp3])), (xp1, .inl (cJ, 12, .inr (.inl an))), (xp2, .inl (cJ, 12, .inr (.inl xsm))), (xp3, .inl (cI, 12, .inl xfl)), (b3, .inr (5, [.ref xt1])), (xt1, .inl (cJ, 8, .inr (.inl xtf))), (b4, .inr (0, [.ref xc1, .ref xc2])), (xc1, .inl (cI, 4, .inl sz)), (xc2, .inl (cG, 4, .inr (.inr (.inr (.inr (f_rw xr)))))), (xr 0, .inl (cJ, 100, .inr (.inl (vs 0)))), (xr 1, .inl (cJ, 100, .inr (.inl (vs 1)))), (xr 2, .inl (cJ, 100, .inr (.inl (vs 2)))), (xr 3, .inl (cJ, 100, .inr (.inl (vs 3)))), (b5, .inr (2, [.ref xj1, .int (nI xz), .int (nI xq)])), (xj1, .inl (cJ, 64, .inr (.inl xrg)))] := by
  refine k_of (cc := cPD_same) (maxL := 1) (ret := (some .boolean)) (by decide) rfl (Nat.le_of_ble_eq_true rfl) ?_
  intro p e s m below meth c A ls hx hb hr hlocks hml hown hts hA hP hD hK hF hl hS
  have hown : s.vm.findClass RPD = some m.cls := hown
  have hl : lv_has ls 1 [(0, .ref o0)] := hl
  refine lv_aload_n hx hb dPD_same_0 rfl (lv_at hl 0 rfl) ?_
  refine va_get (D := (dC, dI)) (ci := 6) (v := .ref a0) (C := RPD) (T := TPD) (N := 2) hx hb hts inPD hown hK hP 0 rfl rfl 0 (by decide) (hts _ m_f_PD_10) (fun _ h9 => h9) rfl dPD_same_1 ?_
  refine lv_aload_n hx hb dPD_same_4 rfl (lv_at hl 0 rfl) ?_
  refine va_get (D := (dC, dI)) (ci := 6) (v := .ref b0) (C := RPD) (T := TPD) (N := 2) hx hb hts inPD hown hK hP 0 rfl rfl 1 (by decide) (hts _ m_f_PD_16) (fun _ h9 => h9) rfl dPD_same_5 ?_
  refine k_V (wr := [(o0, .inr (6, [.ref a0, .ref b0]))]) (W1 := [(o0, .inr (6, [.ref a0, .ref b0])), (a0, .inr (1, [.ref a1, .ref a2, .ref a3, .ref a4, .ref a5])), (a1, .inr (3, [.ref n1, .ref n2])), (n1, .inl (cI, 8, .inl md)), (n2, .inl (cJ, 8, .inr (.inl kn))), (a2, .inr (4, [.ref p1, .ref p2, .ref p3])), (p1, .inl (cJ, 12, .inr (.inl an))), (p2, .inl (cJ, 12, .inr (.inl sm))), (p3, .inl (cI, 12, .inl fl)), (a3, .inr (5, [.ref t1])), (t1, .inl (cJ, 8, .inr (.inl tf))), (a4, .inr (0, [.ref c1, .ref c2])), (c1, .inl (cI, 4, .inl sz)), (c2, .inl (cG, 4, .inr (.inr (.inr (.inr (f_rw r)))))), (r 0, .inl (cJ, 100, .inr (.inl (vs 0)))), (r 1, .inl (cJ, 100, .inr (.inl (vs 1)))), (r 2, .inl (cJ, 100, .inr (.inl (vs 2)))), (r 3, .inl (cJ, 100, .inr (.inl (vs 3)))), (a5, .inr (2, [.ref j1, .int (nI z), .int (nI q)])), (j1, .inl (cJ, 64, .inr (.inl rg))), (b0, .inr (1, [.ref b1, .ref b2, .ref b3, .ref b4, .ref b5])), (b1, .inr (3, [.ref xn1, .ref xn2])), (xn1, .inl (cI, 8, .inl md)), (xn2, .inl (cJ, 8, .inr (.inl kn))), (b2, .inr (4, [.ref xp1, .ref xp2, .ref xp3])), (xp1, .inl (cJ, 12, .inr (.inl an))), (xp2, .inl (cJ, 12, .inr (.inl xsm))), (xp3, .inl (cI, 12, .inl xfl)), (b3, .inr (5, [.ref xt1])), (xt1, .inl (cJ, 8, .inr (.inl xtf))), (b4, .inr (0, [.ref xc1, .ref xc2])), (xc1, .inl (cI, 4, .inl sz)), (xc2, .inl (cG, 4, .inr (.inr (.inr (.inr (f_rw xr)))))), (xr 0, .inl (cJ, 100, .inr (.inl (vs 0)))), (xr 1, .inl (cJ, 100, .inr (.inl (vs 1)))), (xr 2, .inl (cJ, 100, .inr (.inl (vs 2)))), (xr 3, .inl (cJ, 100, .inr (.inl (vs 3)))), (b5, .inr (2, [.ref xj1, .int (nI xz), .int (nI xq)])), (xj1, .inl (cJ, 64, .inr (.inl xrg)))]) (st1 := [.int (if (∀ j : Nat, j < 12 → sm j = xsm j) ∧ (z = xz ∧ ∀ j : Nat, j < z → rg (f_ix q z j) = xrg (f_ix xq xz j)) ∧ (∀ j : Nat, j < 8 → tf j = xtf j) then 1 else 0)]) ⟨hx, hb, hml, hown, hts⟩ (k_DK_isLike l dC dI cI cJ cG cZ a0 a1 a2 a3 a4 a5 n1 n2 p1 p2 p3 t1 c1 c2 j1 r sm fl tf rg z q b0 b1 b2 b3 b4 b5 xn1 xn2 xp1 xp2 xp3 xt1 xc1 xc2 xj1 xr xsm xfl xtf xrg xz xq md kn an sz vs ns hns hz hq hz2 hq2) (cwV 1 hts (k_gV m_l_PD_148 m_i_DK_isLike m_s_DK_isLike m_in_DK m_c_DK_isLike) rfl rfl rfl (by decide +kernel) ⟨Nat.le_of_ble_eq_true rfl, Nat.le_of_ble_eq_true rfl⟩) hK hF hP hD hS hA [1, 2, 3, 4, 5, 6, 7, 8, 9, 10, 11, 12, 13, 14, 15, 16, 17, 18, 19, 20, 21, 22, 23, 24, 25, 26, 27, 28, 29, 30, 31, 32, 33, 34, 35, 36, 37, 38] [0] [0, 1, 2, 3, 4, 5, 6, 7, 8, 9, 10, 11, 12, 13, 14, 15, 16, 17, 18, 19, 20, 21, 22, 23, 24, 25, 26, 27, 28, 29, 30, 31, 32, 33, 34, 35, 36, 37, 38] rfl rfl (by decide) (by decide) (by decide) rfl (by decide) rfl rfl rfl rfl hl.1 rfl (Nat.le_of_ble_eq_true rfl) dPD_same_8 ⟨Nat.le_of_ble_eq_true rfl, Nat.le_of_ble_eq_true rfl⟩ rfl (fun H locs hP hD hS => ?_)
  exact k_zret hx hb hr hlocks f_nar hP hK hD hS rfl dPD_same_11 ⟨Nat.le_of_ble_eq_true rfl, Nat.le_of_ble_eq_true rfl⟩

abbrev rm_PD_make : Room := { frames := 6, cells := 1, slots := 6, locals := 82 }
set_option maxHeartbeats 4000000 in
set_option maxRecDepth 100000 in
theorem k_PD_make (l : Launch) (dC : Nat → ClassId) (dI : Nat → Nat → Nat) (cI cJ cG cZ : ClassId) (o0 : Nat) (a0 : Nat) (a1 : Nat) (a2 : Nat) (a3 : Nat) (a4 : Nat) (a5 : Nat) (b0 : Nat) (b1 : Nat) (b2 : Nat) (b3 : Nat) (b4 : Nat) (b5 : Nat) (n1 : Nat) (n2 : Nat) (m1 : Nat) (m2 : Nat) (md : Nat → Int32) (kn : Nat → Int64) (k : Nat) (hk : k < 8) (hf : md k < 40) : k_M l yPD_make wsPD_make rm_PD_make (dC, dI) vwCl [(cI, .int), (cJ, .long), (cG, .array .long), (cZ, .boolean)] [.ref o0, .int (nI k)] [(o0, .inr (6, [.ref a0, .ref b0])), (a0, .inr (1, [.ref a1, .ref a2, .ref a3, .ref a4, .ref a5])), (b0, .inr (1, [.ref b1, .ref b2, .ref b3, .ref b4, .ref b5])), (a1, .inr (3, [.ref n1, .ref n2])), (n1, .inl (cI, 8, .inl md)), (n2, .inl (cJ, 8, .inr (.inl kn))), (b1, .inr (3, [.ref m1, .ref m2])), (m1, .inl (cI, 8, .inl md)), (m2, .inl (cJ, 8, .inr (.inl kn)))] (some (.int (md k + 1))) [(o0, .inr (6, [.ref a0, .ref b0])), (a0, .inr (1, [.ref a1, .ref a2, .ref a3, .ref a4, .ref a5])), (b0, .inr (1, [.ref b1, .ref b2, .ref b3, .ref b4, .ref b5])), (a1, .inr (3, [.ref n1, .ref n2])), (n1, .inl (cI, 8, .inl (upd md k (md k + 1)))), (n2, .inl (cJ, 8, .inr (.inl (vp_updL kn k (kn k ||| f_bit (md k + 1)))))), (b1, .inr (3, [.ref m1, .ref m2])), (m1, .inl (cI, 8, .inl (upd md k (md k + 1)))), (m2, .inl (cJ, 8, .inr (.inl (vp_updL kn k (kn k ||| f_bit (md k + 1))))))] := by
  refine k_of (cc := cPD_make) (maxL := 2) (ret := (some .int)) (by decide) rfl (Nat.le_of_ble_eq_true rfl) ?_
  intro p e s m below meth c A ls hx hb hr hlocks hml hown hts hA hP hD hK hF hl hS
  have hown : s.vm.findClass RPD = some m.cls := hown
  have hl : lv_has ls 2 [(0, .ref o0), (1, .int (nI k))] := hl
  refine lv_iload_n hx hb dPD_make_0 rfl (lv_at hl 1 rfl) ?_
  refine k_S (wr := [(o0, .inr (6, [.ref a0, .ref b0])), (a0, .inr (1, [.ref a1, .ref a2, .ref a3, .ref a4, .ref a5])), (b0, .inr (1, [.ref b1, .ref b2, .ref b3, .ref b4, .ref b5])), (a1, .inr (3, [.ref n1, .ref n2])), (n1, .inl (cI, 8, .inl md)), (n2, .inl (cJ, 8, .inr (.inl kn))), (b1, .inr (3, [.ref m1, .ref m2])), (m1, .inl (cI, 8, .inl md)), (m2, .inl (cJ, 8, .inr (.inl kn)))]) (W1 := [(o0, .inr (6, [.ref a0, .ref b0])), (a0, .inr (1, [.ref a1, .ref a2, .ref a3, .ref a4, .ref a5])), (b0, .inr (1, [.ref b1, .ref b2, .ref b3, .ref b4, .ref b5])), (a1, .inr (3, [.ref n1, .ref n2])), (n1, .inl (cI, 8, .inl md)), (n2, .inl (cJ, 8, .inr (.inl kn))), (b1, .inr (3, [.ref m1, .ref m2])), (m1, .inl (cI, 8, .inl md)), (m2, .inl (cJ, 8, .inr (.inl kn)))]) (st1 := [.int (f_isKind (nI k))]) ⟨hx, hb, hml, hown, hts⟩ (k_PD_isKind l dC dI cI cJ cG cZ (nI k)) (va_cwS 1 hts (k_gS m_l_PD_54 m_st_PD_isKind m_in_PD m_c_PD_isKind) rfl rfl rfl (by decide +kernel) ⟨Nat.le_of_ble_eq_true rfl, Nat.le_of_ble_eq_true rfl⟩) hK hF hP hD hS hA [] [0, 1, 2, 3, 4, 5, 6, 7, 8] [0, 1, 2, 3, 4, 5, 6, 7, 8] rfl rfl (by decide) (by decide) (by decide) rfl (by decide) rfl hl.1 rfl (Nat.le_of_ble_eq_true rfl) dPD_make_1 ⟨Nat.le_of_ble_eq_true rfl, Nat.le_of_ble_eq_true rfl⟩ rfl (fun H locs hP hD hS => ?_)
  refine lv_if_ne (tgt := 17) hx hb dPD_make_4 (by decide) (fun c_1 => ?_) (fun c_1 => ?_)
  · refine lv_aload_n hx hb dPD_make_17 rfl (lv_at hl 0 rfl) ?_
    refine va_get (D := (dC, dI)) (ci := 6) (v := .ref a0) (C := RPD) (T := TPD) (N := 2) hx hb hts inPD hown hK hP 0 rfl rfl 0 (by decide) (hts _ m_f_PD_10) (fun _ h9 => h9) rfl dPD_make_18 ?_
    refine va_get (D := (dC, dI)) (ci := 1) (v := .ref a1) (C := RDK) (T := TDK) (N := 5) hx hb hts inDK hown hK hP 1 rfl rfl 0 (by decide) (hts _ m_f_PD_64) (fun _ h9 => h9) rfl dPD_make_21 ?_
    refine lv_iload_n hx hb dPD_make_24 rfl (lv_at hl 1 rfl) ?_
    refine k_V (wr := [(o0, .inr (6, [.ref a0, .ref b0])), (a0, .inr (1, [.ref a1, .ref a2, .ref a3, .ref a4, .ref a5])), (b0, .inr (1, [.ref b1, .ref b2, .ref b3, .ref b4, .ref b5])), (b1, .inr (3, [.ref m1, .ref m2])), (m1, .inl (cI, 8, .inl md)), (m2, .inl (cJ, 8, .inr (.inl kn)))]) (W1 := [(o0, .inr (6, [.ref a0, .ref b0])), (a0, .inr (1, [.ref a1, .ref a2, .ref a3, .ref a4, .ref a5])), (b0, .inr (1, [.ref b1, .ref b2, .ref b3, .ref b4, .ref b5])), (a1, .inr (3, [.ref n1, .ref n2])), (n1, .inl (cI, 8, .inl md)), (n2, .inl (cJ, 8, .inr (.inl kn))), (b1, .inr (3, [.ref m1, .ref m2])), (m1, .inl (cI, 8, .inl md)), (m2, .inl (cJ, 8, .inr (.inl kn)))]) (st1 := [.int (f_isFull md k)]) ⟨hx, hb, hml, hown, hts⟩ (k_NU_isFull l dC dI cI cJ cG cZ a1 n1 n2 md kn k hk) (cwV 1 hts (k_gV m_l_PD_68 m_i_NU_isFull m_s_NU_isFull m_in_NU m_c_NU_isFull) rfl rfl rfl (by decide +kernel) ⟨Nat.le_of_ble_eq_true rfl, Nat.le_of_ble_eq_true rfl⟩) hK hF hP hD hS hA [3, 4, 5] [0, 1, 2, 6, 7, 8] [0, 1, 2, 6, 7, 8, 3, 4, 5] rfl rfl (by decide) (by decide) (by decide) rfl (by decide) rfl rfl rfl rfl hl.1 rfl (Nat.le_of_ble_eq_true rfl) dPD_make_25 ⟨Nat.le_of_ble_eq_true rfl, Nat.le_of_ble_eq_true rfl⟩ rfl (fun H locs hP hD hS => ?_)
    refine lv_if_eq (tgt := 41) hx hb dPD_make_28 (by decide) (fun c_2 => ?_) (fun c_2 => ?_)
    · refine lv_aload_n hx hb dPD_make_41 rfl (lv_at hl 0 rfl) ?_
      refine va_get (D := (dC, dI)) (ci := 6) (v := .ref b0) (C := RPD) (T := TPD) (N := 2) hx hb hts inPD hown hK hP 0 rfl rfl 1 (by decide) (hts _ m_f_PD_16) (fun _ h9 => h9) rfl dPD_make_42 ?_
      refine va_get (D := (dC, dI)) (ci := 1) (v := .ref b1) (C := RDK) (T := TDK) (N := 5) hx hb hts inDK hown hK hP 2 rfl rfl 0 (by decide) (hts _ m_f_PD_64) (fun _ h9 => h9) rfl dPD_make_45 ?_
      refine lv_iload_n hx hb dPD_make_48 rfl (lv_at hl 1 rfl) ?_
      refine k_V (wr := [(o0, .inr (6, [.ref a0, .ref b0])), (a0, .inr (1, [.ref a1, .ref a2, .ref a3, .ref a4, .ref a5])), (b0, .inr (1, [.ref b1, .ref b2, .ref b3, .ref b4, .ref b5])), (a1, .inr (3, [.ref n1, .ref n2])), (n1, .inl (cI, 8, .inl md)), (n2, .inl (cJ, 8, .inr (.inl kn)))]) (W1 := [(o0, .inr (6, [.ref a0, .ref b0])), (a0, .inr (1, [.ref a1, .ref a2, .ref a3, .ref a4, .ref a5])), (b0, .inr (1, [.ref b1, .ref b2, .ref b3, .ref b4, .ref b5])), (a1, .inr (3, [.ref n1, .ref n2])), (n1, .inl (cI, 8, .inl md)), (n2, .inl (cJ, 8, .inr (.inl kn))), (b1, .inr (3, [.ref m1, .ref m2])), (m1, .inl (cI, 8, .inl (upd md k (md k + 1)))), (m2, .inl (cJ, 8, .inr (.inl (vp_updL kn k (kn k ||| f_bit (md k + 1))))))]) (st1 := [.int (md k + 1)]) ⟨hx, hb, hml, hown, hts⟩ (k_NU_makeNext l dC dI cI cJ cG cZ b1 m1 m2 md kn k hk) (cwV 1 hts (k_gV m_l_PD_76 m_i_NU_makeNext m_s_NU_makeNext m_in_NU m_c_NU_makeNext) rfl rfl rfl (by decide +kernel) ⟨Nat.le_of_ble_eq_true rfl, Nat.le_of_ble_eq_true rfl⟩) hK hF hP hD hS hA [6, 7, 8] [0, 1, 2, 3, 4, 5] [0, 1, 2, 3, 4, 5, 6, 7, 8] rfl rfl (by decide) (by decide) (by decide) rfl (by decide) rfl rfl rfl rfl hl.1 rfl (Nat.le_of_ble_eq_true rfl) dPD_make_49 ⟨Nat.le_of_ble_eq_true rfl, Nat.le_of_ble_eq_true rfl⟩ rfl (fun H locs hP hD hS => ?_)
      refine lv_pop hx hb dPD_make_52 rfl ?_
      refine lv_aload_n hx hb dPD_make_53 rfl (lv_at hl 0 rfl) ?_
      refine va_get (D := (dC, dI)) (ci := 6) (v := .ref a0) (C := RPD) (T := TPD) (N := 2) hx hb hts inPD hown hK hP 0 rfl rfl 0 (by decide) (hts _ m_f_PD_10) (fun _ h9 => h9) rfl dPD_make_54 ?_
      refine va_get (D := (dC, dI)) (ci := 1) (v := .ref a1) (C := RDK) (T := TDK) (N := 5) hx hb hts inDK hown hK hP 1 rfl rfl 0 (by decide) (hts _ m_f_PD_64) (fun _ h9 => h9) rfl dPD_make_57 ?_
      refine lv_iload_n hx hb dPD_make_60 rfl (lv_at hl 1 rfl) ?_
      refine k_V (wr := [(o0, .inr (6, [.ref a0, .ref b0])), (a0, .inr (1, [.ref a1, .ref a2, .ref a3, .ref a4, .ref a5])), (b0, .inr (1, [.ref b1, .ref b2, .ref b3, .ref b4, .ref b5])), (b1, .inr (3, [.ref m1, .ref m2])), (m1, .inl (cI, 8, .inl (upd md k (md k + 1)))), (m2, .inl (cJ, 8, .inr (.inl (vp_updL kn k (kn k ||| f_bit (md k + 1))))))]) (W1 := [(o0, .inr (6, [.ref a0, .ref b0])), (a0, .inr (1, [.ref a1, .ref a2, .ref a3, .ref a4, .ref a5])), (b0, .inr (1, [.ref b1, .ref b2, .ref b3, .ref b4, .ref b5])), (a1, .inr (3, [.ref n1, .ref n2])), (n1, .inl (cI, 8, .inl (upd md k (md k + 1)))), (n2, .inl (cJ, 8, .inr (.inl (vp_updL kn k (kn k ||| f_bit (md k + 1)))))), (b1, .inr (3, [.ref m1, .ref m2])), (m1, .inl (cI, 8, .inl (upd md k (md k + 1)))), (m2, .inl (cJ, 8, .inr (.inl (vp_updL kn k (kn k ||| f_bit (md k + 1))))))]) (st1 := [.int (md k + 1)]) ⟨hx, hb, hml, hown, hts⟩ (k_NU_makeNext l dC dI cI cJ cG cZ a1 n1 n2 md kn k hk) (cwV 1 hts (k_gV m_l_PD_76 m_i_NU_makeNext m_s_NU_makeNext m_in_NU m_c_NU_makeNext) rfl rfl rfl (by decide +kernel) ⟨Nat.le_of_ble_eq_true rfl, Nat.le_of_ble_eq_true rfl⟩) hK hF hP hD hS hA [3, 4, 5] [0, 1, 2, 6, 7, 8] [0, 1, 2, 6, 7, 8, 3, 4, 5] rfl rfl (by decide) (by decide) (by decide) rfl (by decide) rfl rfl rfl rfl hl.1 rfl (Nat.le_of_ble_eq_true rfl) dPD_make_61 ⟨Nat.le_of_ble_eq_true rfl, Nat.le_of_ble_eq_true rfl⟩ rfl (fun H locs hP hD hS => ?_)
      exact k_iret hx hb hr hlocks hP hK hD hS rfl dPD_make_64 ⟨Nat.le_of_ble_eq_true rfl, Nat.le_of_ble_eq_true rfl⟩
    · exact absurd (f_full0 hf) c_2
  · exact absurd c_1 (by rw [f_isKind_nI hk]; decide)

set_option maxHeartbeats 4000000 in
set_option maxRecDepth 100000 in
theorem k_PD_make_1 (l : Launch) (dC : Nat → ClassId) (dI : Nat → Nat → Nat) (cI cJ cG cZ : ClassId) (o0 : Nat) (a0 : Nat) (a1 : Nat) (a2 : Nat) (a3 : Nat) (a4 : Nat) (a5 : Nat) (b0 : Nat) (b1 : Nat) (b2 : Nat) (b3 : Nat) (b4 : Nat) (b5 : Nat) (n1 : Nat) (n2 : Nat) (m1 : Nat) (m2 : Nat) (md : Nat → Int32) (kn : Nat → Int64) (x : Int32) (h0 : f_isKind x = 0) (hlt : l.stackTraces = false) : k_T l yPD_make wsPD_make rm_PD_make (dC, dI) vwCl [(cI, .int), (cJ, .long), (cG, .array .long), (cZ, .boolean)] [.ref o0, .int x] [(o0, .inr (6, [.ref a0, .ref b0])), (a0, .inr (1, [.ref a1, .ref a2, .ref a3, .ref a4, .ref a5])), (b0, .inr (1, [.ref b1, .ref b2, .ref b3, .ref b4, .ref b5])), (a1, .inr (3, [.ref n1, .ref n2])), (n1, .inl (cI, 8, .inl md)), (n2, .inl (cJ, 8, .inr (.inl kn))), (b1, .inr (3, [.ref m1, .ref m2])), (m1, .inl (cI, 8, .inl md)), (m2, .inl (cJ, 8, .inr (.inl kn)))] "java/lang/IllegalArgumentException" [(o0, .inr (6, [.ref a0, .ref b0])), (a0, .inr (1, [.ref a1, .ref a2, .ref a3, .ref a4, .ref a5])), (b0, .inr (1, [.ref b1, .ref b2, .ref b3, .ref b4, .ref b5])), (a1, .inr (3, [.ref n1, .ref n2])), (n1, .inl (cI, 8, .inl md)), (n2, .inl (cJ, 8, .inr (.inl kn))), (b1, .inr (3, [.ref m1, .ref m2])), (m1, .inl (cI, 8, .inl md)), (m2, .inl (cJ, 8, .inr (.inl kn)))] := by
  refine k_tof (cc := cPD_make) (maxL := 2) (ret := (some .int)) (by decide) rfl (Nat.le_of_ble_eq_true rfl) ?_
  intro p e s m below meth c A ls hx hb hr hlocks hml hown hts hA hP hD hK hF hl hS ht
  have hown : s.vm.findClass RPD = some m.cls := hown
  have hl : lv_has ls 2 [(0, .ref o0), (1, .int x)] := hl
  refine lv_iload_n hx hb dPD_make_0 rfl (lv_at hl 1 rfl) ?_
  refine k_S (wr := [(o0, .inr (6, [.ref a0, .ref b0])), (a0, .inr (1, [.ref a1, .ref a2, .ref a3, .ref a4, .ref a5])), (b0, .inr (1, [.ref b1, .ref b2, .ref b3, .ref b4, .ref b5])), (a1, .inr (3, [.ref n1, .ref n2])), (n1, .inl (cI, 8, .inl md)), (n2, .inl (cJ, 8, .inr (.inl kn))), (b1, .inr (3, [.ref m1, .ref m2])), (m1, .inl (cI, 8, .inl md)), (m2, .inl (cJ, 8, .inr (.inl kn)))]) (W1 := [(o0, .inr (6, [.ref a0, .ref b0])), (a0, .inr (1, [.ref a1, .ref a2, .ref a3, .ref a4, .ref a5])), (b0, .inr (1, [.ref b1, .ref b2, .ref b3, .ref b4, .ref b5])), (a1, .inr (3, [.ref n1, .ref n2])), (n1, .inl (cI, 8, .inl md)), (n2, .inl (cJ, 8, .inr (.inl kn))), (b1, .inr (3, [.ref m1, .ref m2])), (m1, .inl (cI, 8, .inl md)), (m2, .inl (cJ, 8, .inr (.inl kn)))]) (st1 := [.int (f_isKind x)]) ⟨hx, hb, hml, hown, hts⟩ (k_PD_isKind l dC dI cI cJ cG cZ x) (va_cwS 1 hts (k_gS m_l_PD_54 m_st_PD_isKind m_in_PD m_c_PD_isKind) rfl rfl rfl (by decide +kernel) ⟨Nat.le_of_ble_eq_true rfl, Nat.le_of_ble_eq_true rfl⟩) hK hF hP hD hS hA [] [0, 1, 2, 3, 4, 5, 6, 7, 8] [0, 1, 2, 3, 4, 5, 6, 7, 8] rfl rfl (by decide) (by decide) (by decide) rfl (by decide) rfl hl.1 rfl (Nat.le_of_ble_eq_true rfl) dPD_make_1 ⟨Nat.le_of_ble_eq_true rfl, Nat.le_of_ble_eq_true rfl⟩ rfl (fun H locs hP hD hS => ?_)
  refine lv_if_ne (tgt := 17) hx hb dPD_make_4 (by decide) (fun c_1 => ?_) (fun c_1 => ?_)
  · exact absurd h0 c_1
  · exact k_thr (own := RPD) (names := exC) hx hb hlt hown hts (by decide +kernel) (by decide +kernel) m_cl_PD_57 m_in_IllegalArgumentException (List.mem_of_getElem? (i := 5) rfl) (List.mem_of_getElem? (i := 1) rfl) at_PD_61 hF hS (hl.1.trans hml.symm) dPD_make_7 dPD_make_10 dPD_make_11 dPD_make_13 dPD_make_16 (fun x h9 => ht x _ h9) (by decide) (Nat.le_of_ble_eq_true rfl) (Nat.le_of_ble_eq_true rfl) (Nat.le_of_ble_eq_true rfl) hlocks hP hK hD (Nat.le_of_ble_eq_true rfl) (Nat.le_of_ble_eq_true rfl)

set_option maxHeartbeats 4000000 in
set_option maxRecDepth 100000 in
theorem k_PD_make_2 (l : Launch) (dC : Nat → ClassId) (dI : Nat → Nat → Nat) (cI cJ cG cZ : ClassId) (o0 : Nat) (a0 : Nat) (a1 : Nat) (a2 : Nat) (a3 : Nat) (a4 : Nat) (a5 : Nat) (b0 : Nat) (b1 : Nat) (b2 : Nat) (b3 : Nat) (b4 : Nat) (b5 : Nat) (n1 : Nat) (n2 : Nat) (m1 : Nat) (m2 : Nat) (md : Nat → Int32) (kn : Nat → Int64) (k : Nat) (hk : k < 8) (hf : ¬ md k < 40) (hlt : l.stackTraces = false) : k_T l yPD_make wsPD_make rm_PD_make (dC, dI) vwCl [(cI, .int), (cJ, .long), (cG, .array .long), (cZ, .boolean)] [.ref o0, .int (nI k)] [(o0, .inr (6, [.ref a0, .ref b0])), (a0, .inr (1, [.ref a1, .ref a2, .ref a3, .ref a4, .ref a5])), (b0, .inr (1, [.ref b1, .ref b2, .ref b3, .ref b4, .ref b5])), (a1, .inr (3, [.ref n1, .ref n2])), (n1, .inl (cI, 8, .inl md)), (n2, .inl (cJ, 8, .inr (.inl kn))), (b1, .inr (3, [.ref m1, .ref m2])), (m1, .inl (cI, 8, .inl md)), (m2, .inl (cJ, 8, .inr (.inl kn)))] "java/lang/IllegalStateException" [(o0, .inr (6, [.ref a0, .ref b0])), (a0, .inr (1, [.ref a1, .ref a2, .ref a3, .ref a4, .ref a5])), (b0, .inr (1, [.ref b1, .ref b2, .ref b3, .ref b4, .ref b5])), (a1, .inr (3, [.ref n1, .ref n2])), (n1, .inl (cI, 8, .inl md)), (n2, .inl (cJ, 8, .inr (.inl kn))), (b1, .inr (3, [.ref m1, .ref m2])), (m1, .inl (cI, 8, .inl md)), (m2, .inl (cJ, 8, .inr (.inl kn)))] := by
  refine k_tof (cc := cPD_make) (maxL := 2) (ret := (some .int)) (by decide) rfl (Nat.le_of_ble_eq_true rfl) ?_
  intro p e s m below meth c A ls hx hb hr hlocks hml hown hts hA hP hD hK hF hl hS ht
  have hown : s.vm.findClass RPD = some m.cls := hown
  have hl : lv_has ls 2 [(0, .ref o0), (1, .int (nI k))] := hl
  refine lv_iload_n hx hb dPD_make_0 rfl (lv_at hl 1 rfl) ?_
  refine k_S (wr := [(o0, .inr (6, [.ref a0, .ref b0])), (a0, .inr (1, [.ref a1, .ref a2, .ref a3, .ref a4, .ref a5])), (b0, .inr (1, [.ref b1, .ref b2, .ref b3, .ref b4, .ref b5])), (a1, .inr (3, [.ref n1, .ref n2])), (n1, .inl (cI, 8, .inl md)), (n2, .inl (cJ, 8, .inr (.inl kn))), (b1, .inr (3, [.ref m1, .ref m2])), (m1, .inl (cI, 8, .inl md)), (m2, .inl (cJ, 8, .inr (.inl kn)))]) (W1 := [(o0, .inr (6, [.ref a0, .ref b0])), (a0, .inr (1, [.ref a1, .ref a2, .ref a3, .ref a4, .ref a5])), (b0, .inr (1, [.ref b1, .ref b2, .ref b3, .ref b4, .ref b5])), (a1, .inr (3, [.ref n1, .ref n2])), (n1, .inl (cI, 8, .inl md)), (n2, .inl (cJ, 8, .inr (.inl kn))), (b1, .inr (3, [.ref m1, .ref m2])), (m1, .inl (cI, 8, .inl md)), (m2, .inl (cJ, 8, .inr (.inl kn)))]) (st1 := [.int (f_isKind (nI k))]) ⟨hx, hb, hml, hown, hts⟩ (k_PD_isKind l dC dI cI cJ cG cZ (nI k)) (va_cwS 1 hts (k_gS m_l_PD_54 m_st_PD_isKind m_in_PD m_c_PD_isKind) rfl rfl rfl (by decide +kernel) ⟨Nat.le_of_ble_eq_true rfl, Nat.le_of_ble_eq_true rfl⟩) hK hF hP hD hS hA [] [0, 1, 2, 3, 4, 5, 6, 7, 8] [0, 1, 2, 3, 4, 5, 6, 7, 8] rfl rfl (by decide) (by decide) (by decide) rfl (by decide) rfl hl.1 rfl (Nat.le_of_ble_eq_true rfl) dPD_make_1 ⟨Nat.le_of_ble_eq_true rfl, Nat.le_of_ble_eq_true rfl⟩ rfl (fun H locs hP hD hS => ?_)
  refine lv_if_ne (tgt := 17) hx hb dPD_make_4 (by decide) (fun c_1 => ?_) (fun c_1 => ?_)
  · refine lv_aload_n hx hb dPD_make_17 rfl (lv_at hl 0 rfl) ?_
    refine va_get (D := (dC, dI)) (ci := 6) (v := .ref a0) (C := RPD) (T := TPD) (N := 2) hx hb hts inPD hown hK hP 0 rfl rfl 0 (by decide) (hts _ m_f_PD_10) (fun _ h9 => h9) rfl dPD_make_18 ?_
    refine va_get (D := (dC, dI)) (ci := 1) (v := .ref a1) (C := RDK) (T := TDK) (N := 5) hx hb hts inDK hown hK hP 1 rfl rfl 0 (by decide) (hts _ m_f_PD_64) (fun _ h9 => h9) rfl dPD_make_21 ?_
    refine lv_iload_n hx hb dPD_make_24 rfl (lv_at hl 1 rfl) ?_
    refine k_V (wr := [(o0, .inr (6, [.ref a0, .ref b0])), (a0, .inr (1, [.ref a1, .ref a2, .ref a3, .ref a4, .ref a5])), (b0, .inr (1, [.ref b1, .ref b2, .ref b3, .ref b4, .ref b5])), (b1, .inr (3, [.ref m1, .ref m2])), (m1, .inl (cI, 8, .inl md)), (m2, .inl (cJ, 8, .inr (.inl kn)))]) (W1 := [(o0, .inr (6, [.ref a0, .ref b0])), (a0, .inr (1, [.ref a1, .ref a2, .ref a3, .ref a4, .ref a5])), (b0, .inr (1, [.ref b1, .ref b2, .ref b3, .ref b4, .ref b5])), (a1, .inr (3, [.ref n1, .ref n2])), (n1, .inl (cI, 8, .inl md)), (n2, .inl (cJ, 8, .inr (.inl kn))), (b1, .inr (3, [.ref m1, .ref m2])), (m1, .inl (cI, 8, .inl md)), (m2, .inl (cJ, 8, .inr (.inl kn)))]) (st1 := [.int (f_isFull md k)]) ⟨hx, hb, hml, hown, hts⟩ (k_NU_isFull l dC dI cI cJ cG cZ a1 n1 n2 md kn k hk) (cwV 1 hts (k_gV m_l_PD_68 m_i_NU_isFull m_s_NU_isFull m_in_NU m_c_NU_isFull) rfl rfl rfl (by decide +kernel) ⟨Nat.le_of_ble_eq_true rfl, Nat.le_of_ble_eq_true rfl⟩) hK hF hP hD hS hA [3, 4, 5] [0, 1, 2, 6, 7, 8] [0, 1, 2, 6, 7, 8, 3, 4, 5] rfl rfl (by decide) (by decide) (by decide) rfl (by decide) rfl rfl rfl rfl hl.1 rfl (Nat.le_of_ble_eq_true rfl) dPD_make_25 ⟨Nat.le_of_ble_eq_true rfl, Nat.le_of_ble_eq_true rfl⟩ rfl (fun H locs hP hD hS => ?_)
    refine lv_if_eq (tgt := 41) hx hb dPD_make_28 (by decide) (fun c_2 => ?_) (fun c_2 => ?_)
    · exact absurd c_2 (by rw [f_full1 hf]; decide)
    · exact k_thr (own := RPD) (names := exC) hx hb hlt hown hts (by decide +kernel) (by decide +kernel) m_cl_PD_71 m_in_IllegalStateException (List.mem_of_getElem? (i := 6) rfl) (List.mem_of_getElem? (i := 0) rfl) at_PD_75 hF hS (hl.1.trans hml.symm) dPD_make_31 dPD_make_34 dPD_make_35 dPD_make_37 dPD_make_40 (fun x h9 => ht x _ h9) (by decide) (Nat.le_of_ble_eq_true rfl) (Nat.le_of_ble_eq_true rfl) (Nat.le_of_ble_eq_true rfl) hlocks hP hK hD (Nat.le_of_ble_eq_true rfl) (Nat.le_of_ble_eq_true rfl)
  · exact absurd c_1 (by rw [f_isKind_nI hk]; decide)

abbrev rm_PD_told : Room := { frames := 6, cells := 1, slots := 6, locals := 82 }
set_option maxHeartbeats 4000000 in
set_option maxRecDepth 100000 in
theorem k_PD_told (l : Launch) (dC : Nat → ClassId) (dI : Nat → Nat → Nat) (cI cJ cG cZ : ClassId) (o0 : Nat) (a0 : Nat) (a1 : Nat) (a2 : Nat) (a3 : Nat) (a4 : Nat) (a5 : Nat) (b0 : Nat) (t1 : Nat) (tf : Nat → Int64) (k : Nat) (hk : k < 8) : k_M l yPD_told wsPD_told rm_PD_told (dC, dI) vwCl [(cI, .int), (cJ, .long), (cG, .array .long), (cZ, .boolean)] [.ref o0, .int (nI k)] [(o0, .inr (6, [.ref a0, .ref b0])), (a0, .inr (1, [.ref a1, .ref a2, .ref a3, .ref a4, .ref a5])), (a3, .inr (5, [.ref t1])), (t1, .inl (cJ, 8, .inr (.inl tf)))] (some (.long (tf k))) [(o0, .inr (6, [.ref a0, .ref b0])), (a0, .inr (1, [.ref a1, .ref a2, .ref a3, .ref a4, .ref a5])), (a3, .inr (5, [.ref t1])), (t1, .inl (cJ, 8, .inr (.inl tf)))] := by
  refine k_of (cc := cPD_told) (maxL := 2) (ret := (some .long)) (by decide) rfl (Nat.le_of_ble_eq_true rfl) ?_
  intro p e s m below meth c A ls hx hb hr hlocks hml hown hts hA hP hD hK hF hl hS
  have hown : s.vm.findClass RPD = some m.cls := hown
  have hl : lv_has ls 2 [(0, .ref o0), (1, .int (nI k))] := hl
  refine lv_iload_n hx hb dPD_told_0 rfl (lv_at hl 1 rfl) ?_
  refine lv_if_lt (tgt := 10) hx hb dPD_told_1 (by decide) (fun c_1 => ?_) (fun c_1 => ?_)
  · exact absurd c_1 (f_nn (by omega))
  · refine lv_iload_n hx hb dPD_told_4 rfl (lv_at hl 1 rfl) ?_
    refine lv_bipush (v := 8) hx hb dPD_told_5 (by decide) ?_
    refine lv_icmp_lt (tgt := 20) hx hb dPD_told_7 (by decide) (fun c_2 => ?_) (fun c_2 => ?_)
    · refine lv_aload_n hx hb dPD_told_20 rfl (lv_at hl 0 rfl) ?_
      refine va_get (D := (dC, dI)) (ci := 6) (v := .ref a0) (C := RPD) (T := TPD) (N := 2) hx hb hts inPD hown hK hP 0 rfl rfl 0 (by decide) (hts _ m_f_PD_10) (fun _ h9 => h9) rfl dPD_told_21 ?_
      refine va_get (D := (dC, dI)) (ci := 1) (v := .ref a3) (C := RDK) (T := TDK) (N := 5) hx hb hts inDK hown hK hP 1 rfl rfl 2 (by decide) (hts _ m_f_PD_96) (fun _ h9 => h9) rfl dPD_told_24 ?_
      refine lv_iload_n hx hb dPD_told_27 rfl (lv_at hl 1 rfl) ?_
      refine k_V (wr := [(o0, .inr (6, [.ref a0, .ref b0])), (a0, .inr (1, [.ref a1, .ref a2, .ref a3, .ref a4, .ref a5]))]) (W1 := [(o0, .inr (6, [.ref a0, .ref b0])), (a0, .inr (1, [.ref a1, .ref a2, .ref a3, .ref a4, .ref a5])), (a3, .inr (5, [.ref t1])), (t1, .inl (cJ, 8, .inr (.inl tf)))]) (st1 := [.long (tf k)]) ⟨hx, hb, hml, hown, hts⟩ (k_TL_fact l dC dI cI cJ cG cZ a3 t1 tf k hk) (cwV 1 hts (k_gV m_l_PD_100 m_i_TL_fact m_s_TL_fact m_in_TL m_c_TL_fact) rfl rfl rfl (by decide +kernel) ⟨Nat.le_of_ble_eq_true rfl, Nat.le_of_ble_eq_true rfl⟩) hK hF hP hD hS hA [2, 3] [0, 1] [0, 1, 2, 3] rfl rfl (by decide) (by decide) (by decide) rfl (by decide) rfl rfl rfl rfl hl.1 rfl (Nat.le_of_ble_eq_true rfl) dPD_told_28 ⟨Nat.le_of_ble_eq_true rfl, Nat.le_of_ble_eq_true rfl⟩ rfl (fun H locs hP hD hS => ?_)
      exact k_lret hx hb hr hlocks hP hK hD hS rfl dPD_told_31 ⟨Nat.le_of_ble_eq_true rfl, Nat.le_of_ble_eq_true rfl⟩
    · exact absurd ((n_lt (n := 8) rfl (by decide) (by omega)).mpr hk) c_2

set_option maxHeartbeats 4000000 in
set_option maxRecDepth 100000 in
theorem k_PD_told_1 (l : Launch) (dC : Nat → ClassId) (dI : Nat → Nat → Nat) (cI cJ cG cZ : ClassId) (o0 : Nat) (a0 : Nat) (a1 : Nat) (a2 : Nat) (a3 : Nat) (a4 : Nat) (a5 : Nat) (b0 : Nat) (t1 : Nat) (tf : Nat → Int64) (x : Int32) (h0 : x < 0 ∨ ¬ x < 8) (hlt : l.stackTraces = false) : k_T l yPD_told wsPD_told rm_PD_told (dC, dI) vwCl [(cI, .int), (cJ, .long), (cG, .array .long), (cZ, .boolean)] [.ref o0, .int x] [(o0, .inr (6, [.ref a0, .ref b0])), (a0, .inr (1, [.ref a1, .ref a2, .ref a3, .ref a4, .ref a5])), (a3, .inr (5, [.ref t1])), (t1, .inl (cJ, 8, .inr (.inl tf)))] "java/lang/IndexOutOfBoundsException" [(o0, .inr (6, [.ref a0, .ref b0])), (a0, .inr (1, [.ref a1, .ref a2, .ref a3, .ref a4, .ref a5])), (a3, .inr (5, [.ref t1])), (t1, .inl (cJ, 8, .inr (.inl tf)))] := by
  refine k_tof (cc := cPD_told) (maxL := 2) (ret := (some .long)) (by decide) rfl (Nat.le_of_ble_eq_true rfl) ?_
  intro p e s m below meth c A ls hx hb hr hlocks hml hown hts hA hP hD hK hF hl hS ht
  have hown : s.vm.findClass RPD = some m.cls := hown
  have hl : lv_has ls 2 [(0, .ref o0), (1, .int x)] := hl
  refine lv_iload_n hx hb dPD_told_0 rfl (lv_at hl 1 rfl) ?_
  refine lv_if_lt (tgt := 10) hx hb dPD_told_1 (by decide) (fun c_1 => ?_) (fun c_1 => ?_)
  · exact k_thr (own := RPD) (names := exC) hx hb hlt hown hts (by decide +kernel) (by decide +kernel) m_cl_PD_91 m_in_IndexOutOfBoundsException (List.mem_of_getElem? (i := 7) rfl) (List.mem_of_getElem? (i := 2) rfl) at_PD_95 hF hS (hl.1.trans hml.symm) dPD_told_10 dPD_told_13 dPD_told_14 dPD_told_16 dPD_told_19 (fun x h9 => ht x _ h9) (by decide) (Nat.le_of_ble_eq_true rfl) (Nat.le_of_ble_eq_true rfl) (Nat.le_of_ble_eq_true rfl) hlocks hP hK hD (Nat.le_of_ble_eq_true rfl) (Nat.le_of_ble_eq_true rfl)
  · refine lv_iload_n hx hb dPD_told_4 rfl (lv_at hl 1 rfl) ?_
    refine lv_bipush (v := 8) hx hb dPD_told_5 (by decide) ?_
    refine lv_icmp_lt (tgt := 20) hx hb dPD_told_7 (by decide) (fun c_2 => ?_) (fun c_2 => ?_)
    · exact (h0.elim (fun h9 => absurd h9 c_1) (fun h9 => absurd c_2 h9))
    · exact k_thr (own := RPD) (names := exC) hx hb hlt hown hts (by decide +kernel) (by decide +kernel) m_cl_PD_91 m_in_IndexOutOfBoundsException (List.mem_of_getElem? (i := 7) rfl) (List.mem_of_getElem? (i := 2) rfl) at_PD_95 hF hS (hl.1.trans hml.symm) dPD_told_10 dPD_told_13 dPD_told_14 dPD_told_16 dPD_told_19 (fun x h9 => ht x _ h9) (by decide) (Nat.le_of_ble_eq_true rfl) (Nat.le_of_ble_eq_true rfl) (Nat.le_of_ble_eq_true rfl) hlocks hP hK hD (Nat.le_of_ble_eq_true rfl) (Nat.le_of_ble_eq_true rfl)

abbrev rm_PD_number : Room := { frames := 6, cells := 1, slots := 6, locals := 82 }
set_option maxHeartbeats 4000000 in
set_option maxRecDepth 100000 in
theorem k_PD_number (l : Launch) (dC : Nat → ClassId) (dI : Nat → Nat → Nat) (cI cJ cG cZ : ClassId) (o0 : Nat) (a0 : Nat) (a1 : Nat) (a2 : Nat) (a3 : Nat) (a4 : Nat) (a5 : Nat) (b0 : Nat) (n1 : Nat) (n2 : Nat) (md : Nat → Int32) (kn : Nat → Int64) (k : Nat) (M : Nat) (i : Int32) (hk : k < 8) (hM : md k = nI M) (hM4 : M ≤ 40) : k_M l yPD_number wsPD_number rm_PD_number (dC, dI) vwCl [(cI, .int), (cJ, .long), (cG, .array .long), (cZ, .boolean)] [.ref o0, .int (nI k), .int i] [(o0, .inr (6, [.ref a0, .ref b0])), (a0, .inr (1, [.ref a1, .ref a2, .ref a3, .ref a4, .ref a5])), (a1, .inr (3, [.ref n1, .ref n2])), (n1, .inl (cI, 8, .inl md)), (n2, .inl (cJ, 8, .inr (.inl kn)))] (some (.int (f_find (f_P md kn k) i M 1 0))) [(o0, .inr (6, [.ref a0, .ref b0])), (a0, .inr (1, [.ref a1, .ref a2, .ref a3, .ref a4, .ref a5])), (a1, .inr (3, [.ref n1, .ref n2])), (n1, .inl (cI, 8, .inl md)), (n2, .inl (cJ, 8, .inr (.inl kn)))] := by
  refine k_of (cc := cPD_number) (maxL := 3) (ret := (some .int)) (by decide) rfl (Nat.le_of_ble_eq_true rfl) ?_
  intro p e s m below meth c A ls hx hb hr hlocks hml hown hts hA hP hD hK hF hl hS
  have hown : s.vm.findClass RPD = some m.cls := hown
  have hl : lv_has ls 3 [(0, .ref o0), (1, .int (nI k)), (2, .int i)] := hl
  refine lv_iload_n hx hb dPD_number_0 rfl (lv_at hl 1 rfl) ?_
  refine k_S (wr := [(o0, .inr (6, [.ref a0, .ref b0])), (a0, .inr (1, [.ref a1, .ref a2, .ref a3, .ref a4, .ref a5])), (a1, .inr (3, [.ref n1, .ref n2])), (n1, .inl (cI, 8, .inl md)), (n2, .inl (cJ, 8, .inr (.inl kn)))]) (W1 := [(o0, .inr (6, [.ref a0, .ref b0])), (a0, .inr (1, [.ref a1, .ref a2, .ref a3, .ref a4, .ref a5])), (a1, .inr (3, [.ref n1, .ref n2])), (n1, .inl (cI, 8, .inl md)), (n2, .inl (cJ, 8, .inr (.inl kn)))]) (st1 := [.int (f_isKind (nI k))]) ⟨hx, hb, hml, hown, hts⟩ (k_PD_isKind l dC dI cI cJ cG cZ (nI k)) (va_cwS 1 hts (k_gS m_l_PD_54 m_st_PD_isKind m_in_PD m_c_PD_isKind) rfl rfl rfl (by decide +kernel) ⟨Nat.le_of_ble_eq_true rfl, Nat.le_of_ble_eq_true rfl⟩) hK hF hP hD hS hA [] [0, 1, 2, 3, 4] [0, 1, 2, 3, 4] rfl rfl (by decide) (by decide) (by decide) rfl (by decide) rfl hl.1 rfl (Nat.le_of_ble_eq_true rfl) dPD_number_1 ⟨Nat.le_of_ble_eq_true rfl, Nat.le_of_ble_eq_true rfl⟩ rfl (fun H locs hP hD hS => ?_)
  refine lv_if_ne (tgt := 17) hx hb dPD_number_4 (by decide) (fun c_1 => ?_) (fun c_1 => ?_)
  · refine lv_aload_n hx hb dPD_number_17 rfl (lv_at hl 0 rfl) ?_
    refine va_get (D := (dC, dI)) (ci := 6) (v := .ref a0) (C := RPD) (T := TPD) (N := 2) hx hb hts inPD hown hK hP 0 rfl rfl 0 (by decide) (hts _ m_f_PD_10) (fun _ h9 => h9) rfl dPD_number_18 ?_
    refine va_get (D := (dC, dI)) (ci := 1) (v := .ref a1) (C := RDK) (T := TDK) (N := 5) hx hb hts inDK hown hK hP 1 rfl rfl 0 (by decide) (hts _ m_f_PD_64) (fun _ h9 => h9) rfl dPD_number_21 ?_
    refine lv_iload_n hx hb dPD_number_24 rfl (lv_at hl 1 rfl) ?_
    refine lv_iload_n hx hb dPD_number_25 rfl (lv_at hl 2 rfl) ?_
    refine k_V (wr := [(o0, .inr (6, [.ref a0, .ref b0])), (a0, .inr (1, [.ref a1, .ref a2, .ref a3, .ref a4, .ref a5]))]) (W1 := [(o0, .inr (6, [.ref a0, .ref b0])), (a0, .inr (1, [.ref a1, .ref a2, .ref a3, .ref a4, .ref a5])), (a1, .inr (3, [.ref n1, .ref n2])), (n1, .inl (cI, 8, .inl md)), (n2, .inl (cJ, 8, .inr (.inl kn)))]) (st1 := [.int (f_find (f_P md kn k) i M 1 0)]) ⟨hx, hb, hml, hown, hts⟩ (k_NU_knownAt l dC dI cI cJ cG cZ a1 n1 n2 md kn k M i hk hM hM4) (cwV 2 hts (k_gV m_l_PD_109 m_i_NU_knownAt m_s_NU_knownAt m_in_NU m_c_NU_knownAt) rfl rfl rfl (by decide +kernel) ⟨Nat.le_of_ble_eq_true rfl, Nat.le_of_ble_eq_true rfl⟩) hK hF hP hD hS hA [2, 3, 4] [0, 1] [0, 1, 2, 3, 4] rfl rfl (by decide) (by decide) (by decide) rfl (by decide) rfl rfl rfl rfl hl.1 rfl (Nat.le_of_ble_eq_true rfl) dPD_number_26 ⟨Nat.le_of_ble_eq_true rfl, Nat.le_of_ble_eq_true rfl⟩ rfl (fun H locs hP hD hS => ?_)
    exact k_iret hx hb hr hlocks hP hK hD hS rfl dPD_number_29 ⟨Nat.le_of_ble_eq_true rfl, Nat.le_of_ble_eq_true rfl⟩
  · exact absurd c_1 (by rw [f_isKind_nI hk]; decide)

set_option maxHeartbeats 4000000 in
set_option maxRecDepth 100000 in
theorem k_PD_number_1 (l : Launch) (dC : Nat → ClassId) (dI : Nat → Nat → Nat) (cI cJ cG cZ : ClassId) (o0 : Nat) (a0 : Nat) (a1 : Nat) (a2 : Nat) (a3 : Nat) (a4 : Nat) (a5 : Nat) (b0 : Nat) (n1 : Nat) (n2 : Nat) (md : Nat → Int32) (kn : Nat → Int64) (x : Int32) (i : Int32) (h0 : f_isKind x = 0) (hlt : l.stackTraces = false) : k_T l yPD_number wsPD_number rm_PD_number (dC, dI) vwCl [(cI, .int), (cJ, .long), (cG, .array .long), (cZ, .boolean)] [.ref o0, .int x, .int i] [(o0, .inr (6, [.ref a0, .ref b0])), (a0, .inr (1, [.ref a1, .ref a2, .ref a3, .ref a4, .ref a5])), (a1, .inr (3, [.ref n1, .ref n2])), (n1, .inl (cI, 8, .inl md)), (n2, .inl (cJ, 8, .inr (.inl kn)))] "java/lang/IllegalArgumentException" [(o0, .inr (6, [.ref a0, .ref b0])), (a0, .inr (1, [.ref a1, .ref a2, .ref a3, .ref a4, .ref a5])), (a1, .inr (3, [.ref n1, .ref n2])), (n1, .inl (cI, 8, .inl md)), (n2, .inl (cJ, 8, .inr (.inl kn)))] := by
  refine k_tof (cc := cPD_number) (maxL := 3) (ret := (some .int)) (by decide) rfl (Nat.le_of_ble_eq_true rfl) ?_
  intro p e s m below meth c A ls hx hb hr hlocks hml hown hts hA hP hD hK hF hl hS ht
  have hown : s.vm.findClass RPD = some m.cls := hown
  have hl : lv_has ls 3 [(0, .ref o0), (1, .int x), (2, .int i)] := hl
  refine lv_iload_n hx hb dPD_number_0 rfl (lv_at hl 1 rfl) ?_
  refine k_S (wr := [(o0, .inr (6, [.ref a0, .ref b0])), (a0, .inr (1, [.ref a1, .ref a2, .ref a3, .ref a4, .ref a5])), (a1, .inr (3, [.ref n1, .ref n2])), (n1, .inl (cI, 8, .inl md)), (n2, .inl (cJ, 8, .inr (.inl kn)))]) (W1 := [(o0, .inr (6, [.ref a0, .ref b0])), (a0, .inr (1, [.ref a1, .ref a2, .ref a3, .ref a4, .ref a5])), (a1, .inr (3, [.ref n1, .ref n2])), (n1, .inl (cI, 8, .inl md)), (n2, .inl (cJ, 8, .inr (.inl kn)))]) (st1 := [.int (f_isKind x)]) ⟨hx, hb, hml, hown, hts⟩ (k_PD_isKind l dC dI cI cJ cG cZ x) (va_cwS 1 hts (k_gS m_l_PD_54 m_st_PD_isKind m_in_PD m_c_PD_isKind) rfl rfl rfl (by decide +kernel) ⟨Nat.le_of_ble_eq_true rfl, Nat.le_of_ble_eq_true rfl⟩) hK hF hP hD hS hA [] [0, 1, 2, 3, 4] [0, 1, 2, 3, 4] rfl rfl (by decide) (by decide) (by decide) rfl (by decide) rfl hl.1 rfl (Nat.le_of_ble_eq_true rfl) dPD_number_1 ⟨Nat.le_of_ble_eq_true rfl, Nat.le_of_ble_eq_true rfl⟩ rfl (fun H locs hP hD hS => ?_)
  refine lv_if_ne (tgt := 17) hx hb dPD_number_4 (by decide) (fun c_1 => ?_) (fun c_1 => ?_)
  · exact absurd h0 c_1
  · exact k_thr (own := RPD) (names := exC) hx hb hlt hown hts (by decide +kernel) (by decide +kernel) m_cl_PD_57 m_in_IllegalArgumentException (List.mem_of_getElem? (i := 5) rfl) (List.mem_of_getElem? (i := 1) rfl) at_PD_61 hF hS (hl.1.trans hml.symm) dPD_number_7 dPD_number_10 dPD_number_11 dPD_number_13 dPD_number_16 (fun x h9 => ht x _ h9) (by decide) (Nat.le_of_ble_eq_true rfl) (Nat.le_of_ble_eq_true rfl) (Nat.le_of_ble_eq_true rfl) hlocks hP hK hD (Nat.le_of_ble_eq_true rfl) (Nat.le_of_ble_eq_true rfl)

abbrev rm_PD_collected : Room := { frames := 6, cells := 1, slots := 6, locals := 82 }
set_option maxHeartbeats 4000000 in
set_option maxRecDepth 100000 in
theorem k_PD_collected (l : Launch) (dC : Nat → ClassId) (dI : Nat → Nat → Nat) (cI cJ cG cZ : ClassId) (o0 : Nat) (a0 : Nat) (a1 : Nat) (a2 : Nat) (a3 : Nat) (a4 : Nat) (a5 : Nat) (b0 : Nat) (c1 : Nat) (c2 : Nat) (r : Nat → Nat) (sz : Nat → Int32) (vs : Nat → Nat → Int64) (k : Nat) (j : Nat) (hk : k < 4) (hj : nI j < sz k) (hj1 : j < 100) : k_M l yPD_collected wsPD_collected rm_PD_collected (dC, dI) vwCl [(cI, .int), (cJ, .long), (cG, .array .long), (cZ, .boolean)] [.ref o0, .int (nI k), .int (nI j)] [(o0, .inr (6, [.ref a0, .ref b0])), (a0, .inr (1, [.ref a1, .ref a2, .ref a3, .ref a4, .ref a5])), (a4, .inr (0, [.ref c1, .ref c2])), (c1, .inl (cI, 4, .inl sz)), (c2, .inl (cG, 4, .inr (.inr (.inr (.inr (f_rw r)))))), (r 0, .inl (cJ, 100, .inr (.inl (vs 0)))), (r 1, .inl (cJ, 100, .inr (.inl (vs 1)))), (r 2, .inl (cJ, 100, .inr (.inl (vs 2)))), (r 3, .inl (cJ, 100, .inr (.inl (vs 3))))] (some (.long (vs k j))) [(o0, .inr (6, [.ref a0, .ref b0])), (a0, .inr (1, [.ref a1, .ref a2, .ref a3, .ref a4, .ref a5])), (a4, .inr (0, [.ref c1, .ref c2])), (c1, .inl (cI, 4, .inl sz)), (c2, .inl (cG, 4, .inr (.inr (.inr (.inr (f_rw r)))))), (r 0, .inl (cJ, 100, .inr (.inl (vs 0)))), (r 1, .inl (cJ, 100, .inr (.inl (vs 1)))), (r 2, .inl (cJ, 100, .inr (.inl (vs 2)))), (r 3, .inl (cJ, 100, .inr (.inl (vs 3))))] := by
  refine k_of (cc := cPD_collected) (maxL := 3) (ret := (some .long)) (by decide) rfl (Nat.le_of_ble_eq_true rfl) ?_
  intro p e s m below meth c A ls hx hb hr hlocks hml hown hts hA hP hD hK hF hl hS
  have hown : s.vm.findClass RPD = some m.cls := hown
  have hl : lv_has ls 3 [(0, .ref o0), (1, .int (nI k)), (2, .int (nI j))] := hl
  refine lv_iload_n hx hb dPD_collected_0 rfl (lv_at hl 1 rfl) ?_
  refine lv_if_lt (tgt := 28) hx hb dPD_collected_1 (by decide) (fun c_1 => ?_) (fun c_1 => ?_)
  · exact absurd c_1 (f_nn (by omega))
  · refine lv_iload_n hx hb dPD_collected_4 rfl (lv_at hl 1 rfl) ?_
    refine lv_iconst (v := 4) hx hb dPD_collected_5 (by decide) ?_
    refine lv_icmp_ge (tgt := 28) hx hb dPD_collected_6 (by decide) (fun c_2 => ?_) (fun c_2 => ?_)
    · exact absurd c_2 (f_ge4 hk)
    · refine lv_iload_n hx hb dPD_collected_9 rfl (lv_at hl 2 rfl) ?_
      refine lv_if_lt (tgt := 28) hx hb dPD_collected_10 (by decide) (fun c_3 => ?_) (fun c_3 => ?_)
      · exact absurd c_3 (f_nn (by omega))
      · refine lv_iload_n hx hb dPD_collected_13 rfl (lv_at hl 2 rfl) ?_
        refine lv_aload_n hx hb dPD_collected_14 rfl (lv_at hl 0 rfl) ?_
        refine va_get (D := (dC, dI)) (ci := 6) (v := .ref a0) (C := RPD) (T := TPD) (N := 2) hx hb hts inPD hown hK hP 0 rfl rfl 0 (by decide) (hts _ m_f_PD_10) (fun _ h9 => h9) rfl dPD_collected_15 ?_
        refine va_get (D := (dC, dI)) (ci := 1) (v := .ref a4) (C := RDK) (T := TDK) (N := 5) hx hb hts inDK hown hK hP 1 rfl rfl 3 (by decide) (hts _ m_f_PD_25) (fun _ h9 => h9) rfl dPD_collected_18 ?_
        refine lv_iload_n hx hb dPD_collected_21 rfl (lv_at hl 1 rfl) ?_
        refine k_V (wr := [(o0, .inr (6, [.ref a0, .ref b0])), (a0, .inr (1, [.ref a1, .ref a2, .ref a3, .ref a4, .ref a5])), (c2, .inl (cG, 4, .inr (.inr (.inr (.inr (f_rw r)))))), (r 0, .inl (cJ, 100, .inr (.inl (vs 0)))), (r 1, .inl (cJ, 100, .inr (.inl (vs 1)))), (r 2, .inl (cJ, 100, .inr (.inl (vs 2)))), (r 3, .inl (cJ, 100, .inr (.inl (vs 3))))]) (W1 := [(o0, .inr (6, [.ref a0, .ref b0])), (a0, .inr (1, [.ref a1, .ref a2, .ref a3, .ref a4, .ref a5])), (a4, .inr (0, [.ref c1, .ref c2])), (c1, .inl (cI, 4, .inl sz)), (c2, .inl (cG, 4, .inr (.inr (.inr (.inr (f_rw r)))))), (r 0, .inl (cJ, 100, .inr (.inl (vs 0)))), (r 1, .inl (cJ, 100, .inr (.inl (vs 1)))), (r 2, .inl (cJ, 100, .inr (.inl (vs 2)))), (r 3, .inl (cJ, 100, .inr (.inl (vs 3))))]) (st1 := [.int (sz k), .int (nI j)]) ⟨hx, hb, hml, hown, hts⟩ (k_CV_size l dC dI cI cJ cG cZ a4 c1 c2 sz k hk) (cwV 1 hts (k_gV m_l_PD_113 m_i_CV_size m_s_CV_size m_in_CV m_c_CV_size) rfl rfl rfl (by decide +kernel) ⟨Nat.le_of_ble_eq_true rfl, Nat.le_of_ble_eq_true rfl⟩) hK hF hP hD hS hA [2, 3] [0, 1, 4, 5, 6, 7, 8] [0, 1, 7, 8, 2, 3, 4, 5, 6] rfl rfl (by decide) (by decide) (by decide) rfl (by decide) rfl rfl rfl rfl hl.1 rfl (Nat.le_of_ble_eq_true rfl) dPD_collected_22 ⟨Nat.le_of_ble_eq_true rfl, Nat.le_of_ble_eq_true rfl⟩ rfl (fun H locs hP hD hS => ?_)
        refine lv_icmp_lt (tgt := 38) hx hb dPD_collected_25 (by decide) (fun c_4 => ?_) (fun c_4 => ?_)
        · refine lv_aload_n hx hb dPD_collected_38 rfl (lv_at hl 0 rfl) ?_
          refine va_get (D := (dC, dI)) (ci := 6) (v := .ref a0) (C := RPD) (T := TPD) (N := 2) hx hb hts inPD hown hK hP 0 rfl rfl 0 (by decide) (hts _ m_f_PD_10) (fun _ h9 => h9) rfl dPD_collected_39 ?_
          refine va_get (D := (dC, dI)) (ci := 1) (v := .ref a4) (C := RDK) (T := TDK) (N := 5) hx hb hts inDK hown hK hP 1 rfl rfl 3 (by decide) (hts _ m_f_PD_25) (fun _ h9 => h9) rfl dPD_collected_42 ?_
          refine lv_iload_n hx hb dPD_collected_45 rfl (lv_at hl 1 rfl) ?_
          refine lv_iload_n hx hb dPD_collected_46 rfl (lv_at hl 2 rfl) ?_
          refine k_V (wr := [(o0, .inr (6, [.ref a0, .ref b0])), (a0, .inr (1, [.ref a1, .ref a2, .ref a3, .ref a4, .ref a5]))]) (W1 := [(o0, .inr (6, [.ref a0, .ref b0])), (a0, .inr (1, [.ref a1, .ref a2, .ref a3, .ref a4, .ref a5])), (a4, .inr (0, [.ref c1, .ref c2])), (c1, .inl (cI, 4, .inl sz)), (c2, .inl (cG, 4, .inr (.inr (.inr (.inr (f_rw r)))))), (r 0, .inl (cJ, 100, .inr (.inl (vs 0)))), (r 1, .inl (cJ, 100, .inr (.inl (vs 1)))), (r 2, .inl (cJ, 100, .inr (.inl (vs 2)))), (r 3, .inl (cJ, 100, .inr (.inl (vs 3))))]) (st1 := [.long (vs k j)]) ⟨hx, hb, hml, hown, hts⟩ (k_CV_valueAt l dC dI cI cJ cG cZ a4 c1 c2 r sz vs k j hk hj1) (cwV 2 hts (k_gV m_l_PD_118 m_i_CV_valueAt m_s_CV_valueAt m_in_CV m_c_CV_valueAt) rfl rfl rfl (by decide +kernel) ⟨Nat.le_of_ble_eq_true rfl, Nat.le_of_ble_eq_true rfl⟩) hK hF hP hD hS hA [2, 3, 4, 5, 6, 7, 8] [0, 1] [0, 1, 2, 3, 4, 5, 6, 7, 8] rfl rfl (by decide) (by decide) (by decide) rfl (by decide) rfl rfl rfl rfl hl.1 rfl (Nat.le_of_ble_eq_true rfl) dPD_collected_47 ⟨Nat.le_of_ble_eq_true rfl, Nat.le_of_ble_eq_true rfl⟩ rfl (fun H locs hP hD hS => ?_)
          exact k_lret hx hb hr hlocks hP hK hD hS rfl dPD_collected_50 ⟨Nat.le_of_ble_eq_true rfl, Nat.le_of_ble_eq_true rfl⟩
        · exact absurd hj c_4

set_option maxHeartbeats 4000000 in
set_option maxRecDepth 100000 in
theorem k_PD_collected_1 (l : Launch) (dC : Nat → ClassId) (dI : Nat → Nat → Nat) (cI cJ cG cZ : ClassId) (o0 : Nat) (a0 : Nat) (a1 : Nat) (a2 : Nat) (a3 : Nat) (a4 : Nat) (a5 : Nat) (b0 : Nat) (c1 : Nat) (c2 : Nat) (r : Nat → Nat) (sz : Nat → Int32) (vs : Nat → Nat → Int64) (x : Int32) (i : Int32) (h0 : x < 0 ∨ 4 ≤ x) (hlt : l.stackTraces = false) : k_T l yPD_collected wsPD_collected rm_PD_collected (dC, dI) vwCl [(cI, .int), (cJ, .long), (cG, .array .long), (cZ, .boolean)] [.ref o0, .int x, .int i] [(o0, .inr (6, [.ref a0, .ref b0])), (a0, .inr (1, [.ref a1, .ref a2, .ref a3, .ref a4, .ref a5])), (a4, .inr (0, [.ref c1, .ref c2])), (c1, .inl (cI, 4, .inl sz)), (c2, .inl (cG, 4, .inr (.inr (.inr (.inr (f_rw r)))))), (r 0, .inl (cJ, 100, .inr (.inl (vs 0)))), (r 1, .inl (cJ, 100, .inr (.inl (vs 1)))), (r 2, .inl (cJ, 100, .inr (.inl (vs 2)))), (r 3, .inl (cJ, 100, .inr (.inl (vs 3))))] "java/lang/IndexOutOfBoundsException" [(o0, .inr (6, [.ref a0, .ref b0])), (a0, .inr (1, [.ref a1, .ref a2, .ref a3, .ref a4, .ref a5])), (a4, .inr (0, [.ref c1, .ref c2])), (c1, .inl (cI, 4, .inl sz)), (c2, .inl (cG, 4, .inr (.inr (.inr (.inr (f_rw r)))))), (r 0, .inl (cJ, 100, .inr (.inl (vs 0)))), (r 1, .inl (cJ, 100, .inr (.inl (vs 1)))), (r 2, .inl (cJ, 100, .inr (.inl (vs 2)))), (r 3, .inl (cJ, 100, .inr (.inl (vs 3))))] := by
  refine k_tof (cc := cPD_collected) (maxL := 3) (ret := (some .long)) (by decide) rfl (Nat.le_of_ble_eq_true rfl) ?_
  intro p e s m below meth c A ls hx hb hr hlocks hml hown hts hA hP hD hK hF hl hS ht
  have hown : s.vm.findClass RPD = some m.cls := hown
  have hl : lv_has ls 3 [(0, .ref o0), (1, .int x), (2, .int i)] := hl
  refine lv_iload_n hx hb dPD_collected_0 rfl (lv_at hl 1 rfl) ?_
  refine lv_if_lt (tgt := 28) hx hb dPD_collected_1 (by decide) (fun c_1 => ?_) (fun c_1 => ?_)
  · exact k_thr (own := RPD) (names := exC) hx hb hlt hown hts (by decide +kernel) (by decide +kernel) m_cl_PD_91 m_in_IndexOutOfBoundsException (List.mem_of_getElem? (i := 8) rfl) (List.mem_of_getElem? (i := 2) rfl) at_PD_95 hF hS (hl.1.trans hml.symm) dPD_collected_28 dPD_collected_31 dPD_collected_32 dPD_collected_34 dPD_collected_37 (fun x h9 => ht x _ h9) (by decide) (Nat.le_of_ble_eq_true rfl) (Nat.le_of_ble_eq_true rfl) (Nat.le_of_ble_eq_true rfl) hlocks hP hK hD (Nat.le_of_ble_eq_true rfl) (Nat.le_of_ble_eq_true rfl)
  · refine lv_iload_n hx hb dPD_collected_4 rfl (lv_at hl 1 rfl) ?_
    refine lv_iconst (v := 4) hx hb dPD_collected_5 (by decide) ?_
    refine lv_icmp_ge (tgt := 28) hx hb dPD_collected_6 (by decide) (fun c_2 => ?_) (fun c_2 => ?_)
    · exact k_thr (own := RPD) (names := exC) hx hb hlt hown hts (by decide +kernel) (by decide +kernel) m_cl_PD_91 m_in_IndexOutOfBoundsException (List.mem_of_getElem? (i := 8) rfl) (List.mem_of_getElem? (i := 2) rfl) at_PD_95 hF hS (hl.1.trans hml.symm) dPD_collected_28 dPD_collected_31 dPD_collected_32 dPD_collected_34 dPD_collected_37 (fun x h9 => ht x _ h9) (by decide) (Nat.le_of_ble_eq_true rfl) (Nat.le_of_ble_eq_true rfl) (Nat.le_of_ble_eq_true rfl) hlocks hP hK hD (Nat.le_of_ble_eq_true rfl) (Nat.le_of_ble_eq_true rfl)
    · exact (h0.elim (fun h9 => absurd h9 c_1) (fun h9 => absurd h9 c_2))

set_option maxHeartbeats 4000000 in
set_option maxRecDepth 100000 in
theorem k_PD_collected_2 (l : Launch) (dC : Nat → ClassId) (dI : Nat → Nat → Nat) (cI cJ cG cZ : ClassId) (o0 : Nat) (a0 : Nat) (a1 : Nat) (a2 : Nat) (a3 : Nat) (a4 : Nat) (a5 : Nat) (b0 : Nat) (c1 : Nat) (c2 : Nat) (r : Nat → Nat) (sz : Nat → Int32) (vs : Nat → Nat → Int64) (k : Nat) (i : Int32) (hk : k < 4) (h0 : i < 0 ∨ ¬ i < sz k) (hlt : l.stackTraces = false) : k_T l yPD_collected wsPD_collected rm_PD_collected (dC, dI) vwCl [(cI, .int), (cJ, .long), (cG, .array .long), (cZ, .boolean)] [.ref o0, .int (nI k), .int i] [(o0, .inr (6, [.ref a0, .ref b0])), (a0, .inr (1, [.ref a1, .ref a2, .ref a3, .ref a4, .ref a5])), (a4, .inr (0, [.ref c1, .ref c2])), (c1, .inl (cI, 4, .inl sz)), (c2, .inl (cG, 4, .inr (.inr (.inr (.inr (f_rw r)))))), (r 0, .inl (cJ, 100, .inr (.inl (vs 0)))), (r 1, .inl (cJ, 100, .inr (.inl (vs 1)))), (r 2, .inl (cJ, 100, .inr (.inl (vs 2)))), (r 3, .inl (cJ, 100, .inr (.inl (vs 3))))] "java/lang/IndexOutOfBoundsException" [(o0, .inr (6, [.ref a0, .ref b0])), (a0, .inr (1, [.ref a1, .ref a2, .ref a3, .ref a4, .ref a5])), (a4, .inr (0, [.ref c1, .ref c2])), (c1, .inl (cI, 4, .inl sz)), (c2, .inl (cG, 4, .inr (.inr (.inr (.inr (f_rw r)))))), (r 0, .inl (cJ, 100, .inr (.inl (vs 0)))), (r 1, .inl (cJ, 100, .inr (.inl (vs 1)))), (r 2, .inl (cJ, 100, .inr (.inl (vs 2)))), (r 3, .inl (cJ, 100, .inr (.inl (vs 3))))] := by
  refine k_tof (cc := cPD_collected) (maxL := 3) (ret := (some .long)) (by decide) rfl (Nat.le_of_ble_eq_true rfl) ?_
  intro p e s m below meth c A ls hx hb hr hlocks hml hown hts hA hP hD hK hF hl hS ht
  have hown : s.vm.findClass RPD = some m.cls := hown
  have hl : lv_has ls 3 [(0, .ref o0), (1, .int (nI k)), (2, .int i)] := hl
  refine lv_iload_n hx hb dPD_collected_0 rfl (lv_at hl 1 rfl) ?_
  refine lv_if_lt (tgt := 28) hx hb dPD_collected_1 (by decide) (fun c_1 => ?_) (fun c_1 => ?_)
  · exact absurd c_1 (f_nn (by omega))
  · refine lv_iload_n hx hb dPD_collected_4 rfl (lv_at hl 1 rfl) ?_
    refine lv_iconst (v := 4) hx hb dPD_collected_5 (by decide) ?_
    refine lv_icmp_ge (tgt := 28) hx hb dPD_collected_6 (by decide) (fun c_2 => ?_) (fun c_2 => ?_)
    · exact absurd c_2 (f_ge4 hk)
    · refine lv_iload_n hx hb dPD_collected_9 rfl (lv_at hl 2 rfl) ?_
      refine lv_if_lt (tgt := 28) hx hb dPD_collected_10 (by decide) (fun c_3 => ?_) (fun c_3 => ?_)
      · exact k_thr (own := RPD) (names := exC) hx hb hlt hown hts (by decide +kernel) (by decide +kernel) m_cl_PD_91 m_in_IndexOutOfBoundsException (List.mem_of_getElem? (i := 8) rfl) (List.mem_of_getElem? (i := 2) rfl) at_PD_95 hF hS (hl.1.trans hml.symm) dPD_collected_28 dPD_collected_31 dPD_collected_32 dPD_collected_34 dPD_collected_37 (fun x h9 => ht x _ h9) (by decide) (Nat.le_of_ble_eq_true rfl) (Nat.le_of_ble_eq_true rfl) (Nat.le_of_ble_eq_true rfl) hlocks hP hK hD (Nat.le_of_ble_eq_true rfl) (Nat.le_of_ble_eq_true rfl)
      · refine lv_iload_n hx hb dPD_collected_13 rfl (lv_at hl 2 rfl) ?_
        refine lv_aload_n hx hb dPD_collected_14 rfl (lv_at hl 0 rfl) ?_
        refine va_get (D := (dC, dI)) (ci := 6) (v := .ref a0) (C := RPD) (T := TPD) (N := 2) hx hb hts inPD hown hK hP 0 rfl rfl 0 (by decide) (hts _ m_f_PD_10) (fun _ h9 => h9) rfl dPD_collected_15 ?_
        refine va_get (D := (dC, dI)) (ci := 1) (v := .ref a4) (C := RDK) (T := TDK) (N := 5) hx hb hts inDK hown hK hP 1 rfl rfl 3 (by decide) (hts _ m_f_PD_25) (fun _ h9 => h9) rfl dPD_collected_18 ?_
        refine lv_iload_n hx hb dPD_collected_21 rfl (lv_at hl 1 rfl) ?_
        refine k_V (wr := [(o0, .inr (6, [.ref a0, .ref b0])), (a0, .inr (1, [.ref a1, .ref a2, .ref a3, .ref a4, .ref a5])), (c2, .inl (cG, 4, .inr (.inr (.inr (.inr (f_rw r)))))), (r 0, .inl (cJ, 100, .inr (.inl (vs 0)))), (r 1, .inl (cJ, 100, .inr (.inl (vs 1)))), (r 2, .inl (cJ, 100, .inr (.inl (vs 2)))), (r 3, .inl (cJ, 100, .inr (.inl (vs 3))))]) (W1 := [(o0, .inr (6, [.ref a0, .ref b0])), (a0, .inr (1, [.ref a1, .ref a2, .ref a3, .ref a4, .ref a5])), (a4, .inr (0, [.ref c1, .ref c2])), (c1, .inl (cI, 4, .inl sz)), (c2, .inl (cG, 4, .inr (.inr (.inr (.inr (f_rw r)))))), (r 0, .inl (cJ, 100, .inr (.inl (vs 0)))), (r 1, .inl (cJ, 100, .inr (.inl (vs 1)))), (r 2, .inl (cJ, 100, .inr (.inl (vs 2)))), (r 3, .inl (cJ, 100, .inr (.inl (vs 3))))]) (st1 := [.int (sz k), .int i]) ⟨hx, hb, hml, hown, hts⟩ (k_CV_size l dC dI cI cJ cG cZ a4 c1 c2 sz k hk) (cwV 1 hts (k_gV m_l_PD_113 m_i_CV_size m_s_CV_size m_in_CV m_c_CV_size) rfl rfl rfl (by decide +kernel) ⟨Nat.le_of_ble_eq_true rfl, Nat.le_of_ble_eq_true rfl⟩) hK hF hP hD hS hA [2, 3] [0, 1, 4, 5, 6, 7, 8] [0, 1, 7, 8, 2, 3, 4, 5, 6] rfl rfl (by decide) (by decide) (by decide) rfl (by decide) rfl rfl rfl rfl hl.1 rfl (Nat.le_of_ble_eq_true rfl) dPD_collected_22 ⟨Nat.le_of_ble_eq_true rfl, Nat.le_of_ble_eq_true rfl⟩ rfl (fun H locs hP hD hS => ?_)
        refine lv_icmp_lt (tgt := 38) hx hb dPD_collected_25 (by decide) (fun c_4 => ?_) (fun c_4 => ?_)
        · exact (h0.elim (fun h9 => absurd h9 c_3) (fun h9 => absurd c_4 h9))
        · exact k_thr (own := RPD) (names := exC) hx hb hlt hown hts (by decide +kernel) (by decide +kernel) m_cl_PD_91 m_in_IndexOutOfBoundsException (List.mem_of_getElem? (i := 8) rfl) (List.mem_of_getElem? (i := 2) rfl) at_PD_95 hF hS (hl.1.trans hml.symm) dPD_collected_28 dPD_collected_31 dPD_collected_32 dPD_collected_34 dPD_collected_37 (fun x h9 => ht x _ h9) (by decide) (Nat.le_of_ble_eq_true rfl) (Nat.le_of_ble_eq_true rfl) (Nat.le_of_ble_eq_true rfl) hlocks hP hK hD (Nat.le_of_ble_eq_true rfl) (Nat.le_of_ble_eq_true rfl)

abbrev rm_PD_deskAt : Room := { frames := 0, cells := 0, slots := 0, locals := 0 }
set_option maxHeartbeats 4000000 in
set_option maxRecDepth 100000 in
theorem k_PD_deskAt_0 (l : Launch) (dC : Nat → ClassId) (dI : Nat → Nat → Nat) (cI cJ cG cZ : ClassId) (o0 : Nat) (a0 : Nat) (b0 : Nat) : k_M l yPD_deskAt wsPD_deskAt rm_PD_deskAt (dC, dI) vwCl [(cI, .int), (cJ, .long), (cG, .array .long), (cZ, .boolean)] [.ref o0, .int 0] [(o0, .inr (6, [.ref a0, .ref b0]))] (some (.ref a0)) [(o0, .inr (6, [.ref a0, .ref b0]))] := by
  refine k_of (cc := cPD_deskAt) (maxL := 2) (ret := (some (.object "PortDesk$Desk"))) (by decide) rfl (Nat.le_of_ble_eq_true rfl) ?_
  intro p e s m below meth c A ls hx hb hr hlocks hml hown hts hA hP hD hK hF hl hS
  have hown : s.vm.findClass RPD = some m.cls := hown
  have hl : lv_has ls 2 [(0, .ref o0), (1, .int 0)] := hl
  refine lv_iload_n hx hb dPD_deskAt_0 rfl (lv_at hl 1 rfl) ?_
  refine lv_if_ne (tgt := 11) hx hb dPD_deskAt_1 (by decide) (fun c_1 => ?_) (fun c_1 => ?_)
  · exact absurd (by decide) c_1
  · refine lv_aload_n hx hb dPD_deskAt_4 rfl (lv_at hl 0 rfl) ?_
    refine va_get (D := (dC, dI)) (ci := 6) (v := .ref a0) (C := RPD) (T := TPD) (N := 2) hx hb hts inPD hown hK hP 0 rfl rfl 0 (by decide) (hts _ m_f_PD_10) (fun _ h9 => h9) rfl dPD_deskAt_5 ?_
    refine lv_goto (tgt := 15) hx hb dPD_deskAt_8 (by decide) ?_
    exact k_aret hx hb hr ⟨_, rfl⟩ hlocks hP hK hD hS dPD_deskAt_15 ⟨Nat.le_of_ble_eq_true rfl, Nat.le_of_ble_eq_true rfl⟩

set_option maxHeartbeats 4000000 in
set_option maxRecDepth 100000 in
theorem k_PD_deskAt_1 (l : Launch) (dC : Nat → ClassId) (dI : Nat → Nat → Nat) (cI cJ cG cZ : ClassId) (o0 : Nat) (a0 : Nat) (b0 : Nat) : k_M l yPD_deskAt wsPD_deskAt rm_PD_deskAt (dC, dI) vwCl [(cI, .int), (cJ, .long), (cG, .array .long), (cZ, .boolean)] [.ref o0, .int 1] [(o0, .inr (6, [.ref a0, .ref b0]))] (some (.ref b0)) [(o0, .inr (6, [.ref a0, .ref b0]))] := by
  refine k_of (cc := cPD_deskAt) (maxL := 2) (ret := (some (.object "PortDesk$Desk"))) (by decide) rfl (Nat.le_of_ble_eq_true rfl) ?_
  intro p e s m below meth c A ls hx hb hr hlocks hml hown hts hA hP hD hK hF hl hS
  have hown : s.vm.findClass RPD = some m.cls := hown
  have hl : lv_has ls 2 [(0, .ref o0), (1, .int 1)] := hl
  refine lv_iload_n hx hb dPD_deskAt_0 rfl (lv_at hl 1 rfl) ?_
  refine lv_if_ne (tgt := 11) hx hb dPD_deskAt_1 (by decide) (fun c_1 => ?_) (fun c_1 => ?_)
  · refine lv_aload_n hx hb dPD_deskAt_11 rfl (lv_at hl 0 rfl) ?_
    refine va_get (D := (dC, dI)) (ci := 6) (v := .ref b0) (C := RPD) (T := TPD) (N := 2) hx hb hts inPD hown hK hP 0 rfl rfl 1 (by decide) (hts _ m_f_PD_16) (fun _ h9 => h9) rfl dPD_deskAt_12 ?_
    exact k_aret hx hb hr ⟨_, rfl⟩ hlocks hP hK hD hS dPD_deskAt_15 ⟨Nat.le_of_ble_eq_true rfl, Nat.le_of_ble_eq_true rfl⟩
  · exact absurd c_1 (by decide)

abbrev rm_PD_log : Room := { frames := 6, cells := 1, slots := 6, locals := 82 }
set_option maxHeartbeats 4000000 in
set_option maxRecDepth 100000 in
theorem k_PD_log_0 (l : Launch) (dC : Nat → ClassId) (dI : Nat → Nat → Nat) (cI cJ cG cZ : ClassId) (o0 : Nat) (b0 : Nat) (a0 : Nat) (a1 : Nat) (a2 : Nat) (a3 : Nat) (a4 : Nat) (a5 : Nat) (j1 : Nat) (rg : Nat → Int64) (z : Nat) (q : Nat) (j : Nat) (hz : z ≤ 64) (hq : q < 64) (hj : j < z) : k_M l yPD_log wsPD_log rm_PD_log (dC, dI) vwCl [(cI, .int), (cJ, .long), (cG, .array .long), (cZ, .boolean)] [.ref o0, .int 0, .int (nI j)] [(o0, .inr (6, [.ref a0, .ref b0])), (a0, .inr (1, [.ref a1, .ref a2, .ref a3, .ref a4, .ref a5])), (a5, .inr (2, [.ref j1, .int (nI z), .int (nI q)])), (j1, .inl (cJ, 64, .inr (.inl rg)))] (some (.long (rg (f_ix q z j)))) [(o0, .inr (6, [.ref a0, .ref b0])), (a0, .inr (1, [.ref a1, .ref a2, .ref a3, .ref a4, .ref a5])), (a5, .inr (2, [.ref j1, .int (nI z), .int (nI q)])), (j1, .inl (cJ, 64, .inr (.inl rg)))] := by
  refine k_of (cc := cPD_log) (maxL := 3) (ret := (some .long)) (by decide) rfl (Nat.le_of_ble_eq_true rfl) ?_
  intro p e s m below meth c A ls hx hb hr hlocks hml hown hts hA hP hD hK hF hl hS
  have hown : s.vm.findClass RPD = some m.cls := hown
  have hl : lv_has ls 3 [(0, .ref o0), (1, .int 0), (2, .int (nI j))] := hl
  refine lv_iload_n hx hb dPD_log_0 rfl (lv_at hl 1 rfl) ?_
  refine k_S (wr := [(o0, .inr (6, [.ref a0, .ref b0])), (a0, .inr (1, [.ref a1, .ref a2, .ref a3, .ref a4, .ref a5])), (a5, .inr (2, [.ref j1, .int (nI z), .int (nI q)])), (j1, .inl (cJ, 64, .inr (.inl rg)))]) (W1 := [(o0, .inr (6, [.ref a0, .ref b0])), (a0, .inr (1, [.ref a1, .ref a2, .ref a3, .ref a4, .ref a5])), (a5, .inr (2, [.ref j1, .int (nI z), .int (nI q)])), (j1, .inl (cJ, 64, .inr (.inl rg)))]) (st1 := [.int (f_isDesk 0)]) ⟨hx, hb, hml, hown, hts⟩ (k_PD_isDesk l dC dI cI cJ cG cZ 0) (va_cwS 1 hts (k_gS m_l_PD_122 m_st_PD_isDesk m_in_PD m_c_PD_isDesk) rfl rfl rfl (by decide +kernel) ⟨Nat.le_of_ble_eq_true rfl, Nat.le_of_ble_eq_true rfl⟩) hK hF hP hD hS hA [] [0, 1, 2, 3] [0, 1, 2, 3] rfl rfl (by decide) (by decide) (by decide) rfl (by decide) rfl hl.1 rfl (Nat.le_of_ble_eq_true rfl) dPD_log_1 ⟨Nat.le_of_ble_eq_true rfl, Nat.le_of_ble_eq_true rfl⟩ rfl (fun H locs hP hD hS => ?_)
  refine lv_if_eq (tgt := 26) hx hb dPD_log_4 (by decide) (fun c_1 => ?_) (fun c_1 => ?_)
  · exact absurd c_1 (by decide)
  · refine lv_iload_n hx hb dPD_log_7 rfl (lv_at hl 2 rfl) ?_
    refine lv_if_lt (tgt := 26) hx hb dPD_log_8 (by decide) (fun c_2 => ?_) (fun c_2 => ?_)
    · exact absurd c_2 (f_nn (by omega))
    · refine lv_iload_n hx hb dPD_log_11 rfl (lv_at hl 2 rfl) ?_
      refine lv_aload_n hx hb dPD_log_12 rfl (lv_at hl 0 rfl) ?_
      refine lv_iload_n hx hb dPD_log_13 rfl (lv_at hl 1 rfl) ?_
      refine k_V (wr := [(a0, .inr (1, [.ref a1, .ref a2, .ref a3, .ref a4, .ref a5])), (a5, .inr (2, [.ref j1, .int (nI z), .int (nI q)])), (j1, .inl (cJ, 64, .inr (.inl rg)))]) (W1 := [(o0, .inr (6, [.ref a0, .ref b0])), (a0, .inr (1, [.ref a1, .ref a2, .ref a3, .ref a4, .ref a5])), (a5, .inr (2, [.ref j1, .int (nI z), .int (nI q)])), (j1, .inl (cJ, 64, .inr (.inl rg)))]) (st1 := [.ref a0, .int (nI j)]) ⟨hx, hb, hml, hown, hts⟩ (k_PD_deskAt_0 l dC dI cI cJ cG cZ o0 a0 b0) (cwV 1 hts (k_gV m_l_PD_125 m_i_PD_deskAt m_s_PD_deskAt m_in_PD m_c_PD_deskAt) rfl rfl rfl (by decide +kernel) ⟨Nat.le_of_ble_eq_true rfl, Nat.le_of_ble_eq_true rfl⟩) hK hF hP hD hS hA [0] [1, 2, 3] [3, 0, 1, 2] rfl rfl (by decide) (by decide) (by decide) rfl (by decide) rfl rfl rfl rfl hl.1 rfl (Nat.le_of_ble_eq_true rfl) dPD_log_14 ⟨Nat.le_of_ble_eq_true rfl, Nat.le_of_ble_eq_true rfl⟩ rfl (fun H locs hP hD hS => ?_)
      refine va_get (D := (dC, dI)) (ci := 1) (v := .ref a5) (C := RDK) (T := TDK) (N := 5) hx hb hts inDK hown hK hP 1 rfl rfl 4 (by decide) (hts _ m_f_PD_129) (fun _ h9 => h9) rfl dPD_log_17 ?_
      refine k_V (wr := [(o0, .inr (6, [.ref a0, .ref b0])), (a0, .inr (1, [.ref a1, .ref a2, .ref a3, .ref a4, .ref a5]))]) (W1 := [(o0, .inr (6, [.ref a0, .ref b0])), (a0, .inr (1, [.ref a1, .ref a2, .ref a3, .ref a4, .ref a5])), (a5, .inr (2, [.ref j1, .int (nI z), .int (nI q)])), (j1, .inl (cJ, 64, .inr (.inl rg)))]) (st1 := [.int (nI z), .int (nI j)]) ⟨hx, hb, hml, hown, hts⟩ (k_JN_size l dC dI cI cJ cG cZ a5 j1 rg z q) (cwV 0 hts (k_gV m_l_PD_133 m_i_JN_size m_s_JN_size m_in_JN m_c_JN_size) rfl rfl rfl (by decide +kernel) ⟨Nat.le_of_ble_eq_true rfl, Nat.le_of_ble_eq_true rfl⟩) hK hF hP hD hS hA [2, 3] [0, 1] [0, 1, 2, 3] rfl rfl (by decide) (by decide) (by decide) rfl (by decide) rfl rfl rfl rfl hl.1 rfl (Nat.le_of_ble_eq_true rfl) dPD_log_20 ⟨Nat.le_of_ble_eq_true rfl, Nat.le_of_ble_eq_true rfl⟩ rfl (fun H locs hP hD hS => ?_)
      refine lv_icmp_lt (tgt := 36) hx hb dPD_log_23 (by decide) (fun c_3 => ?_) (fun c_3 => ?_)
      · refine lv_aload_n hx hb dPD_log_36 rfl (lv_at hl 0 rfl) ?_
        refine lv_iload_n hx hb dPD_log_37 rfl (lv_at hl 1 rfl) ?_
        refine k_V (wr := [(a0, .inr (1, [.ref a1, .ref a2, .ref a3, .ref a4, .ref a5])), (a5, .inr (2, [.ref j1, .int (nI z), .int (nI q)])), (j1, .inl (cJ, 64, .inr (.inl rg)))]) (W1 := [(o0, .inr (6, [.ref a0, .ref b0])), (a0, .inr (1, [.ref a1, .ref a2, .ref a3, .ref a4, .ref a5])), (a5, .inr (2, [.ref j1, .int (nI z), .int (nI q)])), (j1, .inl (cJ, 64, .inr (.inl rg)))]) (st1 := [.ref a0]) ⟨hx, hb, hml, hown, hts⟩ (k_PD_deskAt_0 l dC dI cI cJ cG cZ o0 a0 b0) (cwV 1 hts (k_gV m_l_PD_125 m_i_PD_deskAt m_s_PD_deskAt m_in_PD m_c_PD_deskAt) rfl rfl rfl (by decide +kernel) ⟨Nat.le_of_ble_eq_true rfl, Nat.le_of_ble_eq_true rfl⟩) hK hF hP hD hS hA [0] [1, 2, 3] [3, 0, 1, 2] rfl rfl (by decide) (by decide) (by decide) rfl (by decide) rfl rfl rfl rfl hl.1 rfl (Nat.le_of_ble_eq_true rfl) dPD_log_38 ⟨Nat.le_of_ble_eq_true rfl, Nat.le_of_ble_eq_true rfl⟩ rfl (fun H locs hP hD hS => ?_)
        refine va_get (D := (dC, dI)) (ci := 1) (v := .ref a5) (C := RDK) (T := TDK) (N := 5) hx hb hts inDK hown hK hP 1 rfl rfl 4 (by decide) (hts _ m_f_PD_129) (fun _ h9 => h9) rfl dPD_log_41 ?_
        refine lv_iload_n hx hb dPD_log_44 rfl (lv_at hl 2 rfl) ?_
        refine k_V (wr := [(o0, .inr (6, [.ref a0, .ref b0])), (a0, .inr (1, [.ref a1, .ref a2, .ref a3, .ref a4, .ref a5]))]) (W1 := [(o0, .inr (6, [.ref a0, .ref b0])), (a0, .inr (1, [.ref a1, .ref a2, .ref a3, .ref a4, .ref a5])), (a5, .inr (2, [.ref j1, .int (nI z), .int (nI q)])), (j1, .inl (cJ, 64, .inr (.inl rg)))]) (st1 := [.long (rg (f_ix q z j))]) ⟨hx, hb, hml, hown, hts⟩ (k_JN_entryAt l dC dI cI cJ cG cZ a5 j1 rg z q j hz hq (by omega)) (cwV 1 hts (k_gV m_l_PD_140 m_i_JN_entryAt m_s_JN_entryAt m_in_JN m_c_JN_entryAt) rfl rfl rfl (by decide +kernel) ⟨Nat.le_of_ble_eq_true rfl, Nat.le_of_ble_eq_true rfl⟩) hK hF hP hD hS hA [2, 3] [0, 1] [0, 1, 2, 3] rfl rfl (by decide) (by decide) (by decide) rfl (by decide) rfl rfl rfl rfl hl.1 rfl (Nat.le_of_ble_eq_true rfl) dPD_log_45 ⟨Nat.le_of_ble_eq_true rfl, Nat.le_of_ble_eq_true rfl⟩ rfl (fun H locs hP hD hS => ?_)
        exact k_lret hx hb hr hlocks hP hK hD hS rfl dPD_log_48 ⟨Nat.le_of_ble_eq_true rfl, Nat.le_of_ble_eq_true rfl⟩
      · exact absurd (nI_lt hj (by omega)) c_3

set_option maxHeartbeats 4000000 in
set_option maxRecDepth 100000 in
theorem k_PD_log_T0 (l : Launch) (dC : Nat → ClassId) (dI : Nat → Nat → Nat) (cI cJ cG cZ : ClassId) (o0 : Nat) (b0 : Nat) (a0 : Nat) (a1 : Nat) (a2 : Nat) (a3 : Nat) (a4 : Nat) (a5 : Nat) (j1 : Nat) (rg : Nat → Int64) (z : Nat) (q : Nat) (i : Int32) (h0 : i < 0 ∨ ¬ i < nI z) (hlt : l.stackTraces = false) : k_T l yPD_log wsPD_log rm_PD_log (dC, dI) vwCl [(cI, .int), (cJ, .long), (cG, .array .long), (cZ, .boolean)] [.ref o0, .int 0, .int i] [(o0, .inr (6, [.ref a0, .ref b0])), (a0, .inr (1, [.ref a1, .ref a2, .ref a3, .ref a4, .ref a5])), (a5, .inr (2, [.ref j1, .int (nI z), .int (nI q)])), (j1, .inl (cJ, 64, .inr (.inl rg)))] "java/lang/IndexOutOfBoundsException" [(o0, .inr (6, [.ref a0, .ref b0])), (a0, .inr (1, [.ref a1, .ref a2, .ref a3, .ref a4, .ref a5])), (a5, .inr (2, [.ref j1, .int (nI z), .int (nI q)])), (j1, .inl (cJ, 64, .inr (.inl rg)))] := by
  refine k_tof (cc := cPD_log) (maxL := 3) (ret := (some .long)) (by decide) rfl (Nat.le_of_ble_eq_true rfl) ?_
  intro p e s m below meth c A ls hx hb hr hlocks hml hown hts hA hP hD hK hF hl hS ht
  have hown : s.vm.findClass RPD = some m.cls := hown
  have hl : lv_has ls 3 [(0, .ref o0), (1, .int 0), (2, .int i)] := hl
  refine lv_iload_n hx hb dPD_log_0 rfl (lv_at hl 1 rfl) ?_
  refine k_S (wr := [(o0, .inr (6, [.ref a0, .ref b0])), (a0, .inr (1, [.ref a1, .ref a2, .ref a3, .ref a4, .ref a5])), (a5, .inr (2, [.ref j1, .int (nI z), .int (nI q)])), (j1, .inl (cJ, 64, .inr (.inl rg)))]) (W1 := [(o0, .inr (6, [.ref a0, .ref b0])), (a0, .inr (1, [.ref a1, .ref a2, .ref a3, .ref a4, .ref a5])), (a5, .inr (2, [.ref j1, .int (nI z), .int (nI q)])), (j1, .inl (cJ, 64, .inr (.inl rg)))]) (st1 := [.int (f_isDesk 0)]) ⟨hx, hb, hml, hown, hts⟩ (k_PD_isDesk l dC dI cI cJ cG cZ 0) (va_cwS 1 hts (k_gS m_l_PD_122 m_st_PD_isDesk m_in_PD m_c_PD_isDesk) rfl rfl rfl (by decide +kernel) ⟨Nat.le_of_ble_eq_true rfl, Nat.le_of_ble_eq_true rfl⟩) hK hF hP hD hS hA [] [0, 1, 2, 3] [0, 1, 2, 3] rfl rfl (by decide) (by decide) (by decide) rfl (by decide) rfl hl.1 rfl (Nat.le_of_ble_eq_true rfl) dPD_log_1 ⟨Nat.le_of_ble_eq_true rfl, Nat.le_of_ble_eq_true rfl⟩ rfl (fun H locs hP hD hS => ?_)
  refine lv_if_eq (tgt := 26) hx hb dPD_log_4 (by decide) (fun c_1 => ?_) (fun c_1 => ?_)
  · exact absurd c_1 (by decide)
  · refine lv_iload_n hx hb dPD_log_7 rfl (lv_at hl 2 rfl) ?_
    refine lv_if_lt (tgt := 26) hx hb dPD_log_8 (by decide) (fun c_2 => ?_) (fun c_2 => ?_)
    · exact k_thr (own := RPD) (names := exC) hx hb hlt hown hts (by decide +kernel) (by decide +kernel) m_cl_PD_91 m_in_IndexOutOfBoundsException (List.mem_of_getElem? (i := 9) rfl) (List.mem_of_getElem? (i := 2) rfl) at_PD_95 hF hS (hl.1.trans hml.symm) dPD_log_26 dPD_log_29 dPD_log_30 dPD_log_32 dPD_log_35 (fun x h9 => ht x _ h9) (by decide) (Nat.le_of_ble_eq_true rfl) (Nat.le_of_ble_eq_true rfl) (Nat.le_of_ble_eq_true rfl) hlocks hP hK hD (Nat.le_of_ble_eq_true rfl) (Nat.le_of_ble_eq_true rfl)
    · refine lv_iload_n hx hb dPD_log_11 rfl (lv_at hl 2 rfl) ?_
      refine lv_aload_n hx hb dPD_log_12 rfl (lv_at hl 0 rfl) ?_
      refine lv_iload_n hx hb dPD_log_13 rfl (lv_at hl 1 rfl) ?_
      refine k_V (wr := [(a0, .inr (1, [.ref a1, .ref a2, .ref a3, .ref a4, .ref a5])), (a5, .inr (2, [.ref j1, .int (nI z), .int (nI q)])), (j1, .inl (cJ, 64, .inr (.inl rg)))]) (W1 := [(o0, .inr (6, [.ref a0, .ref b0])), (a0, .inr (1, [.ref a1, .ref a2, .ref a3, .ref a4, .ref a5])), (a5, .inr (2, [.ref j1, .int (nI z), .int (nI q)])), (j1, .inl (cJ, 64, .inr (.inl rg)))]) (st1 := [.ref a0, .int i]) ⟨hx, hb, hml, hown, hts⟩ (k_PD_deskAt_0 l dC dI cI cJ cG cZ o0 a0 b0) (cwV 1 hts (k_gV m_l_PD_125 m_i_PD_deskAt m_s_PD_deskAt m_in_PD m_c_PD_deskAt) rfl rfl rfl (by decide +kernel) ⟨Nat.le_of_ble_eq_true rfl, Nat.le_of_ble_eq_true rfl⟩) hK hF hP hD hS hA [0] [1, 2, 3] [3, 0, 1, 2] rfl rfl (by decide) (by decide) (by decide) rfl (by decide) rfl rfl rfl rfl hl.1 rfl (Nat.le_of_ble_eq_true rfl) dPD_log_14 ⟨Nat.le_of_ble_eq_true rfl, Nat.le_of_ble_eq_true rfl⟩ rfl (fun H locs hP hD hS => ?_)
      refine va_get (D := (dC, dI)) (ci := 1) (v := .ref a5) (C := RDK) (T := TDK) (N := 5) hx hb hts inDK hown hK hP 1 rfl rfl 4 (by decide) (hts _ m_f_PD_129) (fun _ h9 => h9) rfl dPD_log_17 ?_
      refine k_V (wr := [(o0, .inr (6, [.ref a0, .ref b0])), (a0, .inr (1, [.ref a1, .ref a2, .ref a3, .ref a4, .ref a5]))]) (W1 := [(o0, .inr (6, [.ref a0, .ref b0])), (a0, .inr (1, [.ref a1, .ref a2, .ref a3, .ref a4, .ref a5])), (a5, .inr (2, [.ref j1, .int (nI z), .int (nI q)])), (j1, .inl (cJ, 64, .inr (.inl rg)))]) (st1 := [.int (nI z), .int i]) ⟨hx, hb, hml, hown, hts⟩ (k_JN_size l dC dI cI cJ cG cZ a5 j1 rg z q) (cwV 0 hts (k_gV m_l_PD_133 m_i_JN_size m_s_JN_size m_in_JN m_c_JN_size) rfl rfl rfl (by decide +kernel) ⟨Nat.le_of_ble_eq_true rfl, Nat.le_of_ble_eq_true rfl⟩) hK hF hP hD hS hA [2, 3] [0, 1] [0, 1, 2, 3] rfl rfl (by decide) (by decide) (by decide) rfl (by decide) rfl rfl rfl rfl hl.1 rfl (Nat.le_of_ble_eq_true rfl) dPD_log_20 ⟨Nat.le_of_ble_eq_true rfl, Nat.le_of_ble_eq_true rfl⟩ rfl (fun H locs hP hD hS => ?_)
      refine lv_icmp_lt (tgt := 36) hx hb dPD_log_23 (by decide) (fun c_3 => ?_) (fun c_3 => ?_)
      · exact (h0.elim (fun h9 => absurd h9 c_2) (fun h9 => absurd c_3 h9))
      · exact k_thr (own := RPD) (names := exC) hx hb hlt hown hts (by decide +kernel) (by decide +kernel) m_cl_PD_91 m_in_IndexOutOfBoundsException (List.mem_of_getElem? (i := 9) rfl) (List.mem_of_getElem? (i := 2) rfl) at_PD_95 hF hS (hl.1.trans hml.symm) dPD_log_26 dPD_log_29 dPD_log_30 dPD_log_32 dPD_log_35 (fun x h9 => ht x _ h9) (by decide) (Nat.le_of_ble_eq_true rfl) (Nat.le_of_ble_eq_true rfl) (Nat.le_of_ble_eq_true rfl) hlocks hP hK hD (Nat.le_of_ble_eq_true rfl) (Nat.le_of_ble_eq_true rfl)

abbrev rm_PD_sum : Room := { frames := 6, cells := 1, slots := 6, locals := 82 }
set_option maxHeartbeats 4000000 in
set_option maxRecDepth 100000 in
theorem k_PD_sum_0 (l : Launch) (dC : Nat → ClassId) (dI : Nat → Nat → Nat) (cI cJ cG cZ : ClassId) (o0 : Nat) (b0 : Nat) (a0 : Nat) (a1 : Nat) (a2 : Nat) (a3 : Nat) (a4 : Nat) (a5 : Nat) (p1 : Nat) (p2 : Nat) (p3 : Nat) (an : Nat → Int64) (sm : Nat → Int64) (fl : Nat → Int32) (k : Nat) (hk : k < 12) : k_M l yPD_sum wsPD_sum rm_PD_sum (dC, dI) vwCl [(cI, .int), (cJ, .long), (cG, .array .long), (cZ, .boolean)] [.ref o0, .int 0, .int (nI k)] [(o0, .inr (6, [.ref a0, .ref b0])), (a0, .inr (1, [.ref a1, .ref a2, .ref a3, .ref a4, .ref a5])), (a2, .inr (4, [.ref p1, .ref p2, .ref p3])), (p1, .inl (cJ, 12, .inr (.inl an))), (p2, .inl (cJ, 12, .inr (.inl sm))), (p3, .inl (cI, 12, .inl fl))] (some (.long (sm k))) [(o0, .inr (6, [.ref a0, .ref b0])), (a0, .inr (1, [.ref a1, .ref a2, .ref a3, .ref a4, .ref a5])), (a2, .inr (4, [.ref p1, .ref p2, .ref p3])), (p1, .inl (cJ, 12, .inr (.inl an))), (p2, .inl (cJ, 12, .inr (.inl sm))), (p3, .inl (cI, 12, .inl fl))] := by
  refine k_of (cc := cPD_sum) (maxL := 3) (ret := (some .long)) (by decide) rfl (Nat.le_of_ble_eq_true rfl) ?_
  intro p e s m below meth c A ls hx hb hr hlocks hml hown hts hA hP hD hK hF hl hS
  have hown : s.vm.findClass RPD = some m.cls := hown
  have hl : lv_has ls 3 [(0, .ref o0), (1, .int 0), (2, .int (nI k))] := hl
  refine lv_iload_n hx hb dPD_sum_0 rfl (lv_at hl 1 rfl) ?_
  refine k_S (wr := [(o0, .inr (6, [.ref a0, .ref b0])), (a0, .inr (1, [.ref a1, .ref a2, .ref a3, .ref a4, .ref a5])), (a2, .inr (4, [.ref p1, .ref p2, .ref p3])), (p1, .inl (cJ, 12, .inr (.inl an))), (p2, .inl (cJ, 12, .inr (.inl sm))), (p3, .inl (cI, 12, .inl fl))]) (W1 := [(o0, .inr (6, [.ref a0, .ref b0])), (a0, .inr (1, [.ref a1, .ref a2, .ref a3, .ref a4, .ref a5])), (a2, .inr (4, [.ref p1, .ref p2, .ref p3])), (p1, .inl (cJ, 12, .inr (.inl an))), (p2, .inl (cJ, 12, .inr (.inl sm))), (p3, .inl (cI, 12, .inl fl))]) (st1 := [.int (f_isDesk 0)]) ⟨hx, hb, hml, hown, hts⟩ (k_PD_isDesk l dC dI cI cJ cG cZ 0) (va_cwS 1 hts (k_gS m_l_PD_122 m_st_PD_isDesk m_in_PD m_c_PD_isDesk) rfl rfl rfl (by decide +kernel) ⟨Nat.le_of_ble_eq_true rfl, Nat.le_of_ble_eq_true rfl⟩) hK hF hP hD hS hA [] [0, 1, 2, 3, 4, 5] [0, 1, 2, 3, 4, 5] rfl rfl (by decide) (by decide) (by decide) rfl (by decide) rfl hl.1 rfl (Nat.le_of_ble_eq_true rfl) dPD_sum_1 ⟨Nat.le_of_ble_eq_true rfl, Nat.le_of_ble_eq_true rfl⟩ rfl (fun H locs hP hD hS => ?_)
  refine lv_if_eq (tgt := 14) hx hb dPD_sum_4 (by decide) (fun c_1 => ?_) (fun c_1 => ?_)
  · exact absurd c_1 (by decide)
  · refine lv_iload_n hx hb dPD_sum_7 rfl (lv_at hl 2 rfl) ?_
    refine k_S (wr := [(o0, .inr (6, [.ref a0, .ref b0])), (a0, .inr (1, [.ref a1, .ref a2, .ref a3, .ref a4, .ref a5])), (a2, .inr (4, [.ref p1, .ref p2, .ref p3])), (p1, .inl (cJ, 12, .inr (.inl an))), (p2, .inl (cJ, 12, .inr (.inl sm))), (p3, .inl (cI, 12, .inl fl))]) (W1 := [(o0, .inr (6, [.ref a0, .ref b0])), (a0, .inr (1, [.ref a1, .ref a2, .ref a3, .ref a4, .ref a5])), (a2, .inr (4, [.ref p1, .ref p2, .ref p3])), (p1, .inl (cJ, 12, .inr (.inl an))), (p2, .inl (cJ, 12, .inr (.inl sm))), (p3, .inl (cI, 12, .inl fl))]) (st1 := [.int (f_isPart (nI k))]) ⟨hx, hb, hml, hown, hts⟩ (k_PD_isPart l dC dI cI cJ cG cZ (nI k)) (va_cwS 1 hts (k_gS m_l_PD_37 m_st_PD_isPart m_in_PD m_c_PD_isPart) rfl rfl rfl (by decide +kernel) ⟨Nat.le_of_ble_eq_true rfl, Nat.le_of_ble_eq_true rfl⟩) hK hF hP hD hS hA [] [0, 1, 2, 3, 4, 5] [0, 1, 2, 3, 4, 5] rfl rfl (by decide) (by decide) (by decide) rfl (by decide) rfl hl.1 rfl (Nat.le_of_ble_eq_true rfl) dPD_sum_8 ⟨Nat.le_of_ble_eq_true rfl, Nat.le_of_ble_eq_true rfl⟩ rfl (fun H locs hP hD hS => ?_)
    refine lv_if_ne (tgt := 24) hx hb dPD_sum_11 (by decide) (fun c_2 => ?_) (fun c_2 => ?_)
    · refine lv_aload_n hx hb dPD_sum_24 rfl (lv_at hl 0 rfl) ?_
      refine lv_iload_n hx hb dPD_sum_25 rfl (lv_at hl 1 rfl) ?_
      refine k_V (wr := [(a0, .inr (1, [.ref a1, .ref a2, .ref a3, .ref a4, .ref a5])), (a2, .inr (4, [.ref p1, .ref p2, .ref p3])), (p1, .inl (cJ, 12, .inr (.inl an))), (p2, .inl (cJ, 12, .inr (.inl sm))), (p3, .inl (cI, 12, .inl fl))]) (W1 := [(o0, .inr (6, [.ref a0, .ref b0])), (a0, .inr (1, [.ref a1, .ref a2, .ref a3, .ref a4, .ref a5])), (a2, .inr (4, [.ref p1, .ref p2, .ref p3])), (p1, .inl (cJ, 12, .inr (.inl an))), (p2, .inl (cJ, 12, .inr (.inl sm))), (p3, .inl (cI, 12, .inl fl))]) (st1 := [.ref a0]) ⟨hx, hb, hml, hown, hts⟩ (k_PD_deskAt_0 l dC dI cI cJ cG cZ o0 a0 b0) (cwV 1 hts (k_gV m_l_PD_125 m_i_PD_deskAt m_s_PD_deskAt m_in_PD m_c_PD_deskAt) rfl rfl rfl (by decide +kernel) ⟨Nat.le_of_ble_eq_true rfl, Nat.le_of_ble_eq_true rfl⟩) hK hF hP hD hS hA [0] [1, 2, 3, 4, 5] [5, 0, 1, 2, 3, 4] rfl rfl (by decide) (by decide) (by decide) rfl (by decide) rfl rfl rfl rfl hl.1 rfl (Nat.le_of_ble_eq_true rfl) dPD_sum_26 ⟨Nat.le_of_ble_eq_true rfl, Nat.le_of_ble_eq_true rfl⟩ rfl (fun H locs hP hD hS => ?_)
      refine va_get (D := (dC, dI)) (ci := 1) (v := .ref a2) (C := RDK) (T := TDK) (N := 5) hx hb hts inDK hown hK hP 1 rfl rfl 1 (by decide) (hts _ m_f_PD_40) (fun _ h9 => h9) rfl dPD_sum_29 ?_
      refine lv_iload_n hx hb dPD_sum_32 rfl (lv_at hl 2 rfl) ?_
      refine k_V (wr := [(o0, .inr (6, [.ref a0, .ref b0])), (a0, .inr (1, [.ref a1, .ref a2, .ref a3, .ref a4, .ref a5]))]) (W1 := [(o0, .inr (6, [.ref a0, .ref b0])), (a0, .inr (1, [.ref a1, .ref a2, .ref a3, .ref a4, .ref a5])), (a2, .inr (4, [.ref p1, .ref p2, .ref p3])), (p1, .inl (cJ, 12, .inr (.inl an))), (p2, .inl (cJ, 12, .inr (.inl sm))), (p3, .inl (cI, 12, .inl fl))]) (st1 := [.long (sm k)]) ⟨hx, hb, hml, hown, hts⟩ (k_PT_sumOf l dC dI cI cJ cG cZ a2 p1 p2 p3 an sm fl k hk) (cwV 1 hts (k_gV m_l_PD_145 m_i_PT_sumOf m_s_PT_sumOf m_in_PT m_c_PT_sumOf) rfl rfl rfl (by decide +kernel) ⟨Nat.le_of_ble_eq_true rfl, Nat.le_of_ble_eq_true rfl⟩) hK hF hP hD hS hA [2, 3, 4, 5] [0, 1] [0, 1, 2, 3, 4, 5] rfl rfl (by decide) (by decide) (by decide) rfl (by decide) rfl rfl rfl rfl hl.1 rfl (Nat.le_of_ble_eq_true rfl) dPD_sum_33 ⟨Nat.le_of_ble_eq_true rfl, Nat.le_of_ble_eq_true rfl⟩ rfl (fun H locs hP hD hS => ?_)
      exact k_lret hx hb hr hlocks hP hK hD hS rfl dPD_sum_36 ⟨Nat.le_of_ble_eq_true rfl, Nat.le_of_ble_eq_true rfl⟩
    · exact absurd c_2 (by rw [f_isPart_nI hk]; decide)

set_option maxHeartbeats 4000000 in
set_option maxRecDepth 100000 in
theorem k_PD_log_1 (l : Launch) (dC : Nat → ClassId) (dI : Nat → Nat → Nat) (cI cJ cG cZ : ClassId) (o0 : Nat) (a0 : Nat) (b0 : Nat) (b1 : Nat) (b2 : Nat) (b3 : Nat) (b4 : Nat) (b5 : Nat) (j1 : Nat) (rg : Nat → Int64) (z : Nat) (q : Nat) (j : Nat) (hz : z ≤ 64) (hq : q < 64) (hj : j < z) : k_M l yPD_log wsPD_log rm_PD_log (dC, dI) vwCl [(cI, .int), (cJ, .long), (cG, .array .long), (cZ, .boolean)] [.ref o0, .int 1, .int (nI j)] [(o0, .inr (6, [.ref a0, .ref b0])), (b0, .inr (1, [.ref b1, .ref b2, .ref b3, .ref b4, .ref b5])), (b5, .inr (2, [.ref j1, .int (nI z), .int (nI q)])), (j1, .inl (cJ, 64, .inr (.inl rg)))] (some (.long (rg (f_ix q z j)))) [(o0, .inr (6, [.ref a0, .ref b0])), (b0, .inr (1, [.ref b1, .ref b2, .ref b3, .ref b4, .ref b5])), (b5, .inr (2, [.ref j1, .int (nI z), .int (nI q)])), (j1, .inl (cJ, 64, .inr (.inl rg)))] := by
  refine k_of (cc := cPD_log) (maxL := 3) (ret := (some .long)) (by decide) rfl (Nat.le_of_ble_eq_true rfl) ?_
  intro p e s m below meth c A ls hx hb hr hlocks hml hown hts hA hP hD hK hF hl hS
  have hown : s.vm.findClass RPD = some m.cls := hown
  have hl : lv_has ls 3 [(0, .ref o0), (1, .int 1), (2, .int (nI j))] := hl
  refine lv_iload_n hx hb dPD_log_0 rfl (lv_at hl 1 rfl) ?_
  refine k_S (wr := [(o0, .inr (6, [.ref a0, .ref b0])), (b0, .inr (1, [.ref b1, .ref b2, .ref b3, .ref b4, .ref b5])), (b5, .inr (2, [.ref j1, .int (nI z), .int (nI q)])), (j1, .inl (cJ, 64, .inr (.inl rg)))]) (W1 := [(o0, .inr (6, [.ref a0, .ref b0])), (b0, .inr (1, [.ref b1, .ref b2, .ref b3, .ref b4, .ref b5])), (b5, .inr (2, [.ref j1, .int (nI z), .int (nI q)])), (j1, .inl (cJ, 64, .inr (.inl rg)))]) (st1 := [.int (f_isDesk 1)]) ⟨hx, hb, hml, hown, hts⟩ (k_PD_isDesk l dC dI cI cJ cG cZ 1) (va_cwS 1 hts (k_gS m_l_PD_122 m_st_PD_isDesk m_in_PD m_c_PD_isDesk) rfl rfl rfl (by decide +kernel) ⟨Nat.le_of_ble_eq_true rfl, Nat.le_of_ble_eq_true rfl⟩) hK hF hP hD hS hA [] [0, 1, 2, 3] [0, 1, 2, 3] rfl rfl (by decide) (by decide) (by decide) rfl (by decide) rfl hl.1 rfl (Nat.le_of_ble_eq_true rfl) dPD_log_1 ⟨Nat.le_of_ble_eq_true rfl, Nat.le_of_ble_eq_true rfl⟩ rfl (fun H locs hP hD hS => ?_)
  refine lv_if_eq (tgt := 26) hx hb dPD_log_4 (by decide) (fun c_1 => ?_) (fun c_1 => ?_)
  · exact absurd c_1 (by decide)
  · refine lv_iload_n hx hb dPD_log_7 rfl (lv_at hl 2 rfl) ?_
    refine lv_if_lt (tgt := 26) hx hb dPD_log_8 (by decide) (fun c_2 => ?_) (fun c_2 => ?_)
    · exact absurd c_2 (f_nn (by omega))
    · refine lv_iload_n hx hb dPD_log_11 rfl (lv_at hl 2 rfl) ?_
      refine lv_aload_n hx hb dPD_log_12 rfl (lv_at hl 0 rfl) ?_
      refine lv_iload_n hx hb dPD_log_13 rfl (lv_at hl 1 rfl) ?_
      refine k_V (wr := [(b0, .inr (1, [.ref b1, .ref b2, .ref b3, .ref b4, .ref b5])), (b5, .inr (2, [.ref j1, .int (nI z), .int (nI q)])), (j1, .inl (cJ, 64, .inr (.inl rg)))]) (W1 := [(o0, .inr (6, [.ref a0, .ref b0])), (b0, .inr (1, [.ref b1, .ref b2, .ref b3, .ref b4, .ref b5])), (b5, .inr (2, [.ref j1, .int (nI z), .int (nI q)])), (j1, .inl (cJ, 64, .inr (.inl rg)))]) (st1 := [.ref b0, .int (nI j)]) ⟨hx, hb, hml, hown, hts⟩ (k_PD_deskAt_1 l dC dI cI cJ cG cZ o0 a0 b0) (cwV 1 hts (k_gV m_l_PD_125 m_i_PD_deskAt m_s_PD_deskAt m_in_PD m_c_PD_deskAt) rfl rfl rfl (by decide +kernel) ⟨Nat.le_of_ble_eq_true rfl, Nat.le_of_ble_eq_true rfl⟩) hK hF hP hD hS hA [0] [1, 2, 3] [3, 0, 1, 2] rfl rfl (by decide) (by decide) (by decide) rfl (by decide) rfl rfl rfl rfl hl.1 rfl (Nat.le_of_ble_eq_true rfl) dPD_log_14 ⟨Nat.le_of_ble_eq_true rfl, Nat.le_of_ble_eq_true rfl⟩ rfl (fun H locs hP hD hS => ?_)
      refine va_get (D := (dC, dI)) (ci := 1) (v := .ref b5) (C := RDK) (T := TDK) (N := 5) hx hb hts inDK hown hK hP 1 rfl rfl 4 (by decide) (hts _ m_f_PD_129) (fun _ h9 => h9) rfl dPD_log_17 ?_
      refine k_V (wr := [(o0, .inr (6, [.ref a0, .ref b0])), (b0, .inr (1, [.ref b1, .ref b2, .ref b3, .ref b4, .ref b5]))]) (W1 := [(o0, .inr (6, [.ref a0, .ref b0])), (b0, .inr (1, [.ref b1, .ref b2, .ref b3, .ref b4, .ref b5])), (b5, .inr (2, [.ref j1, .int (nI z), .int (nI q)])), (j1, .inl (cJ, 64, .inr (.inl rg)))]) (st1 := [.int (nI z), .int (nI j)]) ⟨hx, hb, hml, hown, hts⟩ (k_JN_size l dC dI cI cJ cG cZ b5 j1 rg z q) (cwV 0 hts (k_gV m_l_PD_133 m_i_JN_size m_s_JN_size m_in_JN m_c_JN_size) rfl rfl rfl (by decide +kernel) ⟨Nat.le_of_ble_eq_true rfl, Nat.le_of_ble_eq_true rfl⟩) hK hF hP hD hS hA [2, 3] [0, 1] [0, 1, 2, 3] rfl rfl (by decide) (by decide) (by decide) rfl (by decide) rfl rfl rfl rfl hl.1 rfl (Nat.le_of_ble_eq_true rfl) dPD_log_20 ⟨Nat.le_of_ble_eq_true rfl, Nat.le_of_ble_eq_true rfl⟩ rfl (fun H locs hP hD hS => ?_)
      refine lv_icmp_lt (tgt := 36) hx hb dPD_log_23 (by decide) (fun c_3 => ?_) (fun c_3 => ?_)
      · refine lv_aload_n hx hb dPD_log_36 rfl (lv_at hl 0 rfl) ?_
        refine lv_iload_n hx hb dPD_log_37 rfl (lv_at hl 1 rfl) ?_
        refine k_V (wr := [(b0, .inr (1, [.ref b1, .ref b2, .ref b3, .ref b4, .ref b5])), (b5, .inr (2, [.ref j1, .int (nI z), .int (nI q)])), (j1, .inl (cJ, 64, .inr (.inl rg)))]) (W1 := [(o0, .inr (6, [.ref a0, .ref b0])), (b0, .inr (1, [.ref b1, .ref b2, .ref b3, .ref b4, .ref b5])), (b5, .inr (2, [.ref j1, .int (nI z), .int (nI q)])), (j1, .inl (cJ, 64, .inr (.inl rg)))]) (st1 := [.ref b0]) ⟨hx, hb, hml, hown, hts⟩ (k_PD_deskAt_1 l dC dI cI cJ cG cZ o0 a0 b0) (cwV 1 hts (k_gV m_l_PD_125 m_i_PD_deskAt m_s_PD_deskAt m_in_PD m_c_PD_deskAt) rfl rfl rfl (by decide +kernel) ⟨Nat.le_of_ble_eq_true rfl, Nat.le_of_ble_eq_true rfl⟩) hK hF hP hD hS hA [0] [1, 2, 3] [3, 0, 1, 2] rfl rfl (by decide) (by decide) (by decide) rfl (by decide) rfl rfl rfl rfl hl.1 rfl (Nat.le_of_ble_eq_true rfl) dPD_log_38 ⟨Nat.le_of_ble_eq_true rfl, Nat.le_of_ble_eq_true rfl⟩ rfl (fun H locs hP hD hS => ?_)
        refine va_get (D := (dC, dI)) (ci := 1) (v := .ref b5) (C := RDK) (T := TDK) (N := 5) hx hb hts inDK hown hK hP 1 rfl rfl 4 (by decide) (hts _ m_f_PD_129) (fun _ h9 => h9) rfl dPD_log_41 ?_
        refine lv_iload_n hx hb dPD_log_44 rfl (lv_at hl 2 rfl) ?_
        refine k_V (wr := [(o0, .inr (6, [.ref a0, .ref b0])), (b0, .inr (1, [.ref b1, .ref b2, .ref b3, .ref b4, .ref b5]))]) (W1 := [(o0, .inr (6, [.ref a0, .ref b0])), (b0, .inr (1, [.ref b1, .ref b2, .ref b3, .ref b4, .ref b5])), (b5, .inr (2, [.ref j1, .int (nI z), .int (nI q)])), (j1, .inl (cJ, 64, .inr (.inl rg)))]) (st1 := [.long (rg (f_ix q z j))]) ⟨hx, hb, hml, hown, hts⟩ (k_JN_entryAt l dC dI cI cJ cG cZ b5 j1 rg z q j hz hq (by omega)) (cwV 1 hts (k_gV m_l_PD_140 m_i_JN_entryAt m_s_JN_entryAt m_in_JN m_c_JN_entryAt) rfl rfl rfl (by decide +kernel) ⟨Nat.le_of_ble_eq_true rfl, Nat.le_of_ble_eq_true rfl⟩) hK hF hP hD hS hA [2, 3] [0, 1] [0, 1, 2, 3] rfl rfl (by decide) (by decide) (by decide) rfl (by decide) rfl rfl rfl rfl hl.1 rfl (Nat.le_of_ble_eq_true rfl) dPD_log_45 ⟨Nat.le_of_ble_eq_true rfl, Nat.le_of_ble_eq_true rfl⟩ rfl (fun H locs hP hD hS => ?_)
        exact k_lret hx hb hr hlocks hP hK hD hS rfl dPD_log_48 ⟨Nat.le_of_ble_eq_true rfl, Nat.le_of_ble_eq_true rfl⟩
      · exact absurd (nI_lt hj (by omega)) c_3

set_option maxHeartbeats 4000000 in
set_option maxRecDepth 100000 in
theorem k_PD_log_T1 (l : Launch) (dC : Nat → ClassId) (dI : Nat → Nat → Nat) (cI cJ cG cZ : ClassId) (o0 : Nat) (a0 : Nat) (b0 : Nat) (b1 : Nat) (b2 : Nat) (b3 : Nat) (b4 : Nat) (b5 : Nat) (j1 : Nat) (rg : Nat → Int64) (z : Nat) (q : Nat) (i : Int32) (h0 : i < 0 ∨ ¬ i < nI z) (hlt : l.stackTraces = false) : k_T l yPD_log wsPD_log rm_PD_log (dC, dI) vwCl [(cI, .int), (cJ, .long), (cG, .array .long), (cZ, .boolean)] [.ref o0, .int 1, .int i] [(o0, .inr (6, [.ref a0, .ref b0])), (b0, .inr (1, [.ref b1, .ref b2, .ref b3, .ref b4, .ref b5])), (b5, .inr (2, [.ref j1, .int (nI z), .int (nI q)])), (j1, .inl (cJ, 64, .inr (.inl rg)))] "java/lang/IndexOutOfBoundsException" [(o0, .inr (6, [.ref a0, .ref b0])), (b0, .inr (1, [.ref b1, .ref b2, .ref b3, .ref b4, .ref b5])), (b5, .inr (2, [.ref j1, .int (nI z), .int (nI q)])), (j1, .inl (cJ, 64, .inr (.inl rg)))] := by
  refine k_tof (cc := cPD_log) (maxL := 3) (ret := (some .long)) (by decide) rfl (Nat.le_of_ble_eq_true rfl) ?_
  intro p e s m below meth c A ls hx hb hr hlocks hml hown hts hA hP hD hK hF hl hS ht
  have hown : s.vm.findClass RPD = some m.cls := hown
  have hl : lv_has ls 3 [(0, .ref o0), (1, .int 1), (2, .int i)] := hl
  refine lv_iload_n hx hb dPD_log_0 rfl (lv_at hl 1 rfl) ?_
  refine k_S (wr := [(o0, .inr (6, [.ref a0, .ref b0])), (b0, .inr (1, [.ref b1, .ref b2, .ref b3, .ref b4, .ref b5])), (b5, .inr (2, [.ref j1, .int (nI z), .int (nI q)])), (j1, .inl (cJ, 64, .inr (.inl rg)))]) (W1 := [(o0, .inr (6, [.ref a0, .ref b0])), (b0, .inr (1, [.ref b1, .ref b2, .ref b3, .ref b4, .ref b5])), (b5, .inr (2, [.ref j1, .int (nI z), .int (nI q)])), (j1, .inl (cJ, 64, .inr (.inl rg)))]) (st1 := [.int (f_isDesk 1)]) ⟨hx, hb, hml, hown, hts⟩ (k_PD_isDesk l dC dI cI cJ cG cZ 1) (va_cwS 1 hts (k_gS m_l_PD_122 m_st_PD_isDesk m_in_PD m_c_PD_isDesk) rfl rfl rfl (by decide +kernel) ⟨Nat.le_of_ble_eq_true rfl, Nat.le_of_ble_eq_true rfl⟩) hK hF hP hD hS hA [] [0, 1, 2, 3] [0, 1, 2, 3] rfl rfl (by decide) (by decide) (by decide) rfl (by decide) rfl hl.1 rfl (Nat.le_of_ble_eq_true rfl) dPD_log_1 ⟨Nat.le_of_ble_eq_true rfl, Nat.le_of_ble_eq_true rfl⟩ rfl (fun H locs hP hD hS => ?_)
  refine lv_if_eq (tgt := 26) hx hb dPD_log_4 (by decide) (fun c_1 => ?_) (fun c_1 => ?_)
  · exact absurd c_1 (by decide)
  · refine lv_iload_n hx hb dPD_log_7 rfl (lv_at hl 2 rfl) ?_
    refine lv_if_lt (tgt := 26) hx hb dPD_log_8 (by decide) (fun c_2 => ?_) (fun c_2 => ?_)
    · exact k_thr (own := RPD) (names := exC) hx hb hlt hown hts (by decide +kernel) (by decide +kernel) m_cl_PD_91 m_in_IndexOutOfBoundsException (List.mem_of_getElem? (i := 9) rfl) (List.mem_of_getElem? (i := 2) rfl) at_PD_95 hF hS (hl.1.trans hml.symm) dPD_log_26 dPD_log_29 dPD_log_30 dPD_log_32 dPD_log_35 (fun x h9 => ht x _ h9) (by decide) (Nat.le_of_ble_eq_true rfl) (Nat.le_of_ble_eq_true rfl) (Nat.le_of_ble_eq_true rfl) hlocks hP hK hD (Nat.le_of_ble_eq_true rfl) (Nat.le_of_ble_eq_true rfl)
    · refine lv_iload_n hx hb dPD_log_11 rfl (lv_at hl 2 rfl) ?_
      refine lv_aload_n hx hb dPD_log_12 rfl (lv_at hl 0 rfl) ?_
      refine lv_iload_n hx hb dPD_log_13 rfl (lv_at hl 1 rfl) ?_
      refine k_V (wr := [(b0, .inr (1, [.ref b1, .ref b2, .ref b3, .ref b4, .ref b5])), (b5, .inr (2, [.ref j1, .int (nI z), .int (nI q)])), (j1, .inl (cJ, 64, .inr (.inl rg)))]) (W1 := [(o0, .inr (6, [.ref a0, .ref b0])), (b0, .inr (1, [.ref b1, .ref b2, .ref b3, .ref b4, .ref b5])), (b5, .inr (2, [.ref j1, .int (nI z), .int (nI q)])), (j1, .inl (cJ, 64, .inr (.inl rg)))]) (st1 := [.ref b0, .int i]) ⟨hx, hb, hml, hown, hts⟩ (k_PD_deskAt_1 l dC dI cI cJ cG cZ o0 a0 b0) (cwV 1 hts (k_gV m_l_PD_125 m_i_PD_deskAt m_s_PD_deskAt m_in_PD m_c_PD_deskAt) rfl rfl rfl (by decide +kernel) ⟨Nat.le_of_ble_eq_true rfl, Nat.le_of_ble_eq_true rfl⟩) hK hF hP hD hS hA [0] [1, 2, 3] [3, 0, 1, 2] rfl rfl (by decide) (by decide) (by decide) rfl (by decide) rfl rfl rfl rfl hl.1 rfl (Nat.le_of_ble_eq_true rfl) dPD_log_14 ⟨Nat.le_of_ble_eq_true rfl, Nat.le_of_ble_eq_true rfl⟩ rfl (fun H locs hP hD hS => ?_)
      refine va_get (D := (dC, dI)) (ci := 1) (v := .ref b5) (C := RDK) (T := TDK) (N := 5) hx hb hts inDK hown hK hP 1 rfl rfl 4 (by decide) (hts _ m_f_PD_129) (fun _ h9 => h9) rfl dPD_log_17 ?_
      refine k_V (wr := [(o0, .inr (6, [.ref a0, .ref b0])), (b0, .inr (1, [.ref b1, .ref b2, .ref b3, .ref b4, .ref b5]))]) (W1 := [(o0, .inr (6, [.ref a0, .ref b0])), (b0, .inr (1, [.ref b1, .ref b2, .ref b3, .ref b4, .ref b5])), (b5, .inr (2, [.ref j1, .int (nI z), .int (nI q)])), (j1, .inl (cJ, 64, .inr (.inl rg)))]) (st1 := [.int (nI z), .int i]) ⟨hx, hb, hml, hown, hts⟩ (k_JN_size l dC dI cI cJ cG cZ b5 j1 rg z q) (cwV 0 hts (k_gV m_l_PD_133 m_i_JN_size m_s_JN_size m_in_JN m_c_JN_size) rfl rfl rfl (by decide +kernel) ⟨Nat.le_of_ble_eq_true rfl, Nat.le_of_ble_eq_true rfl⟩) hK hF hP hD hS hA [2, 3] [0, 1] [0, 1, 2, 3] rfl rfl (by decide) (by decide) (by decide) rfl (by decide) rfl rfl rfl rfl hl.1 rfl (Nat.le_of_ble_eq_true rfl) dPD_log_20 ⟨Nat.le_of_ble_eq_true rfl, Nat.le_of_ble_eq_true rfl⟩ rfl (fun H locs hP hD hS => ?_)
      refine lv_icmp_lt (tgt := 36) hx hb dPD_log_23 (by decide) (fun c_3 => ?_) (fun c_3 => ?_)
      · exact (h0.elim (fun h9 => absurd h9 c_2) (fun h9 => absurd c_3 h9))
      · exact k_thr (own := RPD) (names := exC) hx hb hlt hown hts (by decide +kernel) (by decide +kernel) m_cl_PD_91 m_in_IndexOutOfBoundsException (List.mem_of_getElem? (i := 9) rfl) (List.mem_of_getElem? (i := 2) rfl) at_PD_95 hF hS (hl.1.trans hml.symm) dPD_log_26 dPD_log_29 dPD_log_30 dPD_log_32 dPD_log_35 (fun x h9 => ht x _ h9) (by decide) (Nat.le_of_ble_eq_true rfl) (Nat.le_of_ble_eq_true rfl) (Nat.le_of_ble_eq_true rfl) hlocks hP hK hD (Nat.le_of_ble_eq_true rfl) (Nat.le_of_ble_eq_true rfl)

set_option maxHeartbeats 4000000 in
set_option maxRecDepth 100000 in
theorem k_PD_sum_1 (l : Launch) (dC : Nat → ClassId) (dI : Nat → Nat → Nat) (cI cJ cG cZ : ClassId) (o0 : Nat) (a0 : Nat) (b0 : Nat) (b1 : Nat) (b2 : Nat) (b3 : Nat) (b4 : Nat) (b5 : Nat) (p1 : Nat) (p2 : Nat) (p3 : Nat) (an : Nat → Int64) (sm : Nat → Int64) (fl : Nat → Int32) (k : Nat) (hk : k < 12) : k_M l yPD_sum wsPD_sum rm_PD_sum (dC, dI) vwCl [(cI, .int), (cJ, .long), (cG, .array .long), (cZ, .boolean)] [.ref o0, .int 1, .int (nI k)] [(o0, .inr (6, [.ref a0, .ref b0])), (b0, .inr (1, [.ref b1, .ref b2, .ref b3, .ref b4, .ref b5])), (b2, .inr (4, [.ref p1, .ref p2, .ref p3])), (p1, .inl (cJ, 12, .inr (.inl an))), (p2, .inl (cJ, 12, .inr (.inl sm))), (p3, .inl (cI, 12, .inl fl))] (some (.long (sm k))) [(o0, .inr (6, [.ref a0, .ref b0])), (b0, .inr (1, [.ref b1, .ref b2, .ref b3, .ref b4, .ref b5])), (b2, .inr (4, [.ref p1, .ref p2, .ref p3])), (p1, .inl (cJ, 12, .inr (.inl an))), (p2, .inl (cJ, 12, .inr (.inl sm))), (p3, .inl (cI, 12, .inl fl))] := by
  refine k_of (cc := cPD_sum) (maxL := 3) (ret := (some .long)) (by decide) rfl (Nat.le_of_ble_eq_true rfl) ?_
  intro p e s m below meth c A ls hx hb hr hlocks hml hown hts hA hP hD hK hF hl hS
  have hown : s.vm.findClass RPD = some m.cls := hown
  have hl : lv_has ls 3 [(0, .ref o0), (1, .int 1), (2, .int (nI k))] := hl
  refine lv_iload_n hx hb dPD_sum_0 rfl (lv_at hl 1 rfl) ?_
  refine k_S (wr := [(o0, .inr (6, [.ref a0, .ref b0])), (b0, .inr (1, [.ref b1, .ref b2, .ref b3, .ref b4, .ref b5])), (b2, .inr (4, [.ref p1, .ref p2, .ref p3])), (p1, .inl (cJ, 12, .inr (.inl an))), (p2, .inl (cJ, 12, .inr (.inl sm))), (p3, .inl (cI, 12, .inl fl))]) (W1 := [(o0, .inr (6, [.ref a0, .ref b0])), (b0, .inr (1, [.ref b1, .ref b2, .ref b3, .ref b4, .ref b5])), (b2, .inr (4, [.ref p1, .ref p2, .ref p3])), (p1, .inl (cJ, 12, .inr (.inl an))), (p2, .inl (cJ, 12, .inr (.inl sm))), (p3, .inl (cI, 12, .inl fl))]) (st1 := [.int (f_isDesk 1)]) ⟨hx, hb, hml, hown, hts⟩ (k_PD_isDesk l dC dI cI cJ cG cZ 1) (va_cwS 1 hts (k_gS m_l_PD_122 m_st_PD_isDesk m_in_PD m_c_PD_isDesk) rfl rfl rfl (by decide +kernel) ⟨Nat.le_of_ble_eq_true rfl, Nat.le_of_ble_eq_true rfl⟩) hK hF hP hD hS hA [] [0, 1, 2, 3, 4, 5] [0, 1, 2, 3, 4, 5] rfl rfl (by decide) (by decide) (by decide) rfl (by decide) rfl hl.1 rfl (Nat.le_of_ble_eq_true rfl) dPD_sum_1 ⟨Nat.le_of_ble_eq_true rfl, Nat.le_of_ble_eq_true rfl⟩ rfl (fun H locs hP hD hS => ?_)
  refine lv_if_eq (tgt := 14) hx hb dPD_sum_4 (by decide) (fun c_1 => ?_) (fun c_1 => ?_)
  · exact absurd c_1 (by decide)
  · refine lv_iload_n hx hb dPD_sum_7 rfl (lv_at hl 2 rfl) ?_
    refine k_S (wr := [(o0, .inr (6, [.ref a0, .ref b0])), (b0, .inr (1, [.ref b1, .ref b2, .ref b3, .ref b4, .ref b5])), (b2, .inr (4, [.ref p1, .ref p2, .ref p3])), (p1, .inl (cJ, 12, .inr (.inl an))), (p2, .inl (cJ, 12, .inr (.inl sm))), (p3, .inl (cI, 12, .inl fl))]) (W1 := [(o0, .inr (6, [.ref a0, .ref b0])), (b0, .inr (1, [.ref b1, .ref b2, .ref b3, .ref b4, .ref b5])), (b2, .inr (4, [.ref p1, .ref p2, .ref p3])), (p1, .inl (cJ, 12, .inr (.inl an))), (p2, .inl (cJ, 12, .inr (.inl sm))), (p3, .inl (cI, 12, .inl fl))]) (st1 := [.int (f_isPart (nI k))]) ⟨hx, hb, hml, hown, hts⟩ (k_PD_isPart l dC dI cI cJ cG cZ (nI k)) (va_cwS 1 hts (k_gS m_l_PD_37 m_st_PD_isPart m_in_PD m_c_PD_isPart) rfl rfl rfl (by decide +kernel) ⟨Nat.le_of_ble_eq_true rfl, Nat.le_of_ble_eq_true rfl⟩) hK hF hP hD hS hA [] [0, 1, 2, 3, 4, 5] [0, 1, 2, 3, 4, 5] rfl rfl (by decide) (by decide) (by decide) rfl (by decide) rfl hl.1 rfl (Nat.le_of_ble_eq_true rfl) dPD_sum_8 ⟨Nat.le_of_ble_eq_true rfl, Nat.le_of_ble_eq_true rfl⟩ rfl (fun H locs hP hD hS => ?_)
    refine lv_if_ne (tgt := 24) hx hb dPD_sum_11 (by decide) (fun c_2 => ?_) (fun c_2 => ?_)
    · refine lv_aload_n hx hb dPD_sum_24 rfl (lv_at hl 0 rfl) ?_
      refine lv_iload_n hx hb dPD_sum_25 rfl (lv_at hl 1 rfl) ?_
      refine k_V (wr := [(b0, .inr (1, [.ref b1, .ref b2, .ref b3, .ref b4, .ref b5])), (b2, .inr (4, [.ref p1, .ref p2, .ref p3])), (p1, .inl (cJ, 12, .inr (.inl an))), (p2, .inl (cJ, 12, .inr (.inl sm))), (p3, .inl (cI, 12, .inl fl))]) (W1 := [(o0, .inr (6, [.ref a0, .ref b0])), (b0, .inr (1, [.ref b1, .ref b2, .ref b3, .ref b4, .ref b5])), (b2, .inr (4, [.ref p1, .ref p2, .ref p3])), (p1, .inl (cJ, 12, .inr (.inl an))), (p2, .inl (cJ, 12, .inr (.inl sm))), (p3, .inl (cI, 12, .inl fl))]) (st1 := [.ref b0]) ⟨hx, hb, hml, hown, hts⟩ (k_PD_deskAt_1 l dC dI cI cJ cG cZ o0 a0 b0) (cwV 1 hts (k_gV m_l_PD_125 m_i_PD_deskAt m_s_PD_deskAt m_in_PD m_c_PD_deskAt) rfl rfl rfl (by decide +kernel) ⟨Nat.le_of_ble_eq_true rfl, Nat.le_of_ble_eq_true rfl⟩) hK hF hP hD hS hA [0] [1, 2, 3, 4, 5] [5, 0, 1, 2, 3, 4] rfl rfl (by decide) (by decide) (by decide) rfl (by decide) rfl rfl rfl rfl hl.1 rfl (Nat.le_of_ble_eq_true rfl) dPD_sum_26 ⟨Nat.le_of_ble_eq_true rfl, Nat.le_of_ble_eq_true rfl⟩ rfl (fun H locs hP hD hS => ?_)
      refine va_get (D := (dC, dI)) (ci := 1) (v := .ref b2) (C := RDK) (T := TDK) (N := 5) hx hb hts inDK hown hK hP 1 rfl rfl 1 (by decide) (hts _ m_f_PD_40) (fun _ h9 => h9) rfl dPD_sum_29 ?_
      refine lv_iload_n hx hb dPD_sum_32 rfl (lv_at hl 2 rfl) ?_
      refine k_V (wr := [(o0, .inr (6, [.ref a0, .ref b0])), (b0, .inr (1, [.ref b1, .ref b2, .ref b3, .ref b4, .ref b5]))]) (W1 := [(o0, .inr (6, [.ref a0, .ref b0])), (b0, .inr (1, [.ref b1, .ref b2, .ref b3, .ref b4, .ref b5])), (b2, .inr (4, [.ref p1, .ref p2, .ref p3])), (p1, .inl (cJ, 12, .inr (.inl an))), (p2, .inl (cJ, 12, .inr (.inl sm))), (p3, .inl (cI, 12, .inl fl))]) (st1 := [.long (sm k)]) ⟨hx, hb, hml, hown, hts⟩ (k_PT_sumOf l dC dI cI cJ cG cZ b2 p1 p2 p3 an sm fl k hk) (cwV 1 hts (k_gV m_l_PD_145 m_i_PT_sumOf m_s_PT_sumOf m_in_PT m_c_PT_sumOf) rfl rfl rfl (by decide +kernel) ⟨Nat.le_of_ble_eq_true rfl, Nat.le_of_ble_eq_true rfl⟩) hK hF hP hD hS hA [2, 3, 4, 5] [0, 1] [0, 1, 2, 3, 4, 5] rfl rfl (by decide) (by decide) (by decide) rfl (by decide) rfl rfl rfl rfl hl.1 rfl (Nat.le_of_ble_eq_true rfl) dPD_sum_33 ⟨Nat.le_of_ble_eq_true rfl, Nat.le_of_ble_eq_true rfl⟩ rfl (fun H locs hP hD hS => ?_)
      exact k_lret hx hb hr hlocks hP hK hD hS rfl dPD_sum_36 ⟨Nat.le_of_ble_eq_true rfl, Nat.le_of_ble_eq_true rfl⟩
    · exact absurd c_2 (by rw [f_isPart_nI hk]; decide)

set_option maxHeartbeats 4000000 in
set_option maxRecDepth 100000 in
theorem k_PD_log_T (l : Launch) (dC : Nat → ClassId) (dI : Nat → Nat → Nat) (cI cJ cG cZ : ClassId) (o0 : Nat) (a0 : Nat) (b0 : Nat) (x : Int32) (i : Int32) (h0 : f_isDesk x = 0) (hlt : l.stackTraces = false) : k_T l yPD_log wsPD_log rm_PD_log (dC, dI) vwCl [(cI, .int), (cJ, .long), (cG, .array .long), (cZ, .boolean)] [.ref o0, .int x, .int i] [(o0, .inr (6, [.ref a0, .ref b0]))] "java/lang/IndexOutOfBoundsException" [(o0, .inr (6, [.ref a0, .ref b0]))] := by
  refine k_tof (cc := cPD_log) (maxL := 3) (ret := (some .long)) (by decide) rfl (Nat.le_of_ble_eq_true rfl) ?_
  intro p e s m below meth c A ls hx hb hr hlocks hml hown hts hA hP hD hK hF hl hS ht
  have hown : s.vm.findClass RPD = some m.cls := hown
  have hl : lv_has ls 3 [(0, .ref o0), (1, .int x), (2, .int i)] := hl
  refine lv_iload_n hx hb dPD_log_0 rfl (lv_at hl 1 rfl) ?_
  refine k_S (wr := [(o0, .inr (6, [.ref a0, .ref b0]))]) (W1 := [(o0, .inr (6, [.ref a0, .ref b0]))]) (st1 := [.int (f_isDesk x)]) ⟨hx, hb, hml, hown, hts⟩ (k_PD_isDesk l dC dI cI cJ cG cZ x) (va_cwS 1 hts (k_gS m_l_PD_122 m_st_PD_isDesk m_in_PD m_c_PD_isDesk) rfl rfl rfl (by decide +kernel) ⟨Nat.le_of_ble_eq_true rfl, Nat.le_of_ble_eq_true rfl⟩) hK hF hP hD hS hA [] [0] [0] rfl rfl (by decide) (by decide) (by decide) rfl (by decide) rfl hl.1 rfl (Nat.le_of_ble_eq_true rfl) dPD_log_1 ⟨Nat.le_of_ble_eq_true rfl, Nat.le_of_ble_eq_true rfl⟩ rfl (fun H locs hP hD hS => ?_)
  refine lv_if_eq (tgt := 26) hx hb dPD_log_4 (by decide) (fun c_1 => ?_) (fun c_1 => ?_)
  · exact k_thr (own := RPD) (names := exC) hx hb hlt hown hts (by decide +kernel) (by decide +kernel) m_cl_PD_91 m_in_IndexOutOfBoundsException (List.mem_of_getElem? (i := 9) rfl) (List.mem_of_getElem? (i := 2) rfl) at_PD_95 hF hS (hl.1.trans hml.symm) dPD_log_26 dPD_log_29 dPD_log_30 dPD_log_32 dPD_log_35 (fun x h9 => ht x _ h9) (by decide) (Nat.le_of_ble_eq_true rfl) (Nat.le_of_ble_eq_true rfl) (Nat.le_of_ble_eq_true rfl) hlocks hP hK hD (Nat.le_of_ble_eq_true rfl) (Nat.le_of_ble_eq_true rfl)
  · exact absurd h0 c_1

set_option maxHeartbeats 4000000 in
set_option maxRecDepth 100000 in
theorem k_PD_sum_T (l : Launch) (dC : Nat → ClassId) (dI : Nat → Nat → Nat) (cI cJ cG cZ : ClassId) (o0 : Nat) (a0 : Nat) (b0 : Nat) (x : Int32) (y : Int32) (h0 : f_isDesk x = 0 ∨ f_isPart y = 0) (hlt : l.stackTraces = false) : k_T l yPD_sum wsPD_sum rm_PD_sum (dC, dI) vwCl [(cI, .int), (cJ, .long), (cG, .array .long), (cZ, .boolean)] [.ref o0, .int x, .int y] [(o0, .inr (6, [.ref a0, .ref b0]))] "java/lang/IllegalArgumentException" [(o0, .inr (6, [.ref a0, .ref b0]))] := by
  refine k_tof (cc := cPD_sum) (maxL := 3) (ret := (some .long)) (by decide) rfl (Nat.le_of_ble_eq_true rfl) ?_
  intro p e s m below meth c A ls hx hb hr hlocks hml hown hts hA hP hD hK hF hl hS ht
  have hown : s.vm.findClass RPD = some m.cls := hown
  have hl : lv_has ls 3 [(0, .ref o0), (1, .int x), (2, .int y)] := hl
  refine lv_iload_n hx hb dPD_sum_0 rfl (lv_at hl 1 rfl) ?_
  refine k_S (wr := [(o0, .inr (6, [.ref a0, .ref b0]))]) (W1 := [(o0, .inr (6, [.ref a0, .ref b0]))]) (st1 := [.int (f_isDesk x)]) ⟨hx, hb, hml, hown, hts⟩ (k_PD_isDesk l dC dI cI cJ cG cZ x) (va_cwS 1 hts (k_gS m_l_PD_122 m_st_PD_isDesk m_in_PD m_c_PD_isDesk) rfl rfl rfl (by decide +kernel) ⟨Nat.le_of_ble_eq_true rfl, Nat.le_of_ble_eq_true rfl⟩) hK hF hP hD hS hA [] [0] [0] rfl rfl (by decide) (by decide) (by decide) rfl (by decide) rfl hl.1 rfl (Nat.le_of_ble_eq_true rfl) dPD_sum_1 ⟨Nat.le_of_ble_eq_true rfl, Nat.le_of_ble_eq_true rfl⟩ rfl (fun H locs hP hD hS => ?_)
  refine lv_if_eq (tgt := 14) hx hb dPD_sum_4 (by decide) (fun c_1 => ?_) (fun c_1 => ?_)
  · exact k_thr (own := RPD) (names := exC) hx hb hlt hown hts (by decide +kernel) (by decide +kernel) m_cl_PD_57 m_in_IllegalArgumentException (List.mem_of_getElem? (i := 10) rfl) (List.mem_of_getElem? (i := 1) rfl) at_PD_61 hF hS (hl.1.trans hml.symm) dPD_sum_14 dPD_sum_17 dPD_sum_18 dPD_sum_20 dPD_sum_23 (fun x h9 => ht x _ h9) (by decide) (Nat.le_of_ble_eq_true rfl) (Nat.le_of_ble_eq_true rfl) (Nat.le_of_ble_eq_true rfl) hlocks hP hK hD (Nat.le_of_ble_eq_true rfl) (Nat.le_of_ble_eq_true rfl)
  · refine lv_iload_n hx hb dPD_sum_7 rfl (lv_at hl 2 rfl) ?_
    refine k_S (wr := [(o0, .inr (6, [.ref a0, .ref b0]))]) (W1 := [(o0, .inr (6, [.ref a0, .ref b0]))]) (st1 := [.int (f_isPart y)]) ⟨hx, hb, hml, hown, hts⟩ (k_PD_isPart l dC dI cI cJ cG cZ y) (va_cwS 1 hts (k_gS m_l_PD_37 m_st_PD_isPart m_in_PD m_c_PD_isPart) rfl rfl rfl (by decide +kernel) ⟨Nat.le_of_ble_eq_true rfl, Nat.le_of_ble_eq_true rfl⟩) hK hF hP hD hS hA [] [0] [0] rfl rfl (by decide) (by decide) (by decide) rfl (by decide) rfl hl.1 rfl (Nat.le_of_ble_eq_true rfl) dPD_sum_8 ⟨Nat.le_of_ble_eq_true rfl, Nat.le_of_ble_eq_true rfl⟩ rfl (fun H locs hP hD hS => ?_)
    refine lv_if_ne (tgt := 24) hx hb dPD_sum_11 (by decide) (fun c_2 => ?_) (fun c_2 => ?_)
    · exact (h0.elim (fun h9 => absurd h9 c_1) (fun h9 => absurd h9 c_2))
    · exact k_thr (own := RPD) (names := exC) hx hb hlt hown hts (by decide +kernel) (by decide +kernel) m_cl_PD_57 m_in_IllegalArgumentException (List.mem_of_getElem? (i := 10) rfl) (List.mem_of_getElem? (i := 1) rfl) at_PD_61 hF hS (hl.1.trans hml.symm) dPD_sum_14 dPD_sum_17 dPD_sum_18 dPD_sum_20 dPD_sum_23 (fun x h9 => ht x _ h9) (by decide) (Nat.le_of_ble_eq_true rfl) (Nat.le_of_ble_eq_true rfl) (Nat.le_of_ble_eq_true rfl) hlocks hP hK hD (Nat.le_of_ble_eq_true rfl) (Nat.le_of_ble_eq_true rfl)
end
