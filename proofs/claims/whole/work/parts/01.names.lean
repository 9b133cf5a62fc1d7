-- ===== PART A: goes FIRST, ahead of the names: the tables' words, and 'selects' of the private methods out of them =====
/-- a private method of a class that the tables say can be made, by its rows of tables_1 -/
def lw_okq (q : MethodName × Nat) : Prop := (q.1.cls ≠ "java/lang/invoke/MethodHandle" ∧ q.1.cls ≠ "java/lang/invoke/VarHandle") ∧ Cond.instantiable q.1.cls q.2 ∈ tables_1 ∧ Cond.privateMethod q.1 ∈ tables_1 ∧ Cond.instanceMethod q.1 ∈ tables_1
theorem lw_p0 : lw_okq (⟨"PortDesk$Desk", "answerOrRefuse", "(IIJ)J"⟩, 5) := ⟨⟨by decide +kernel, by decide +kernel⟩, List.mem_of_getElem? (i := 27) (by decide +kernel), List.mem_of_getElem? (i := 215) (by decide +kernel), List.mem_of_getElem? (i := 216) (by decide +kernel)⟩
theorem lw_p1 : lw_okq (⟨"PortDesk$Desk", "refuse", "(I)J"⟩, 5) := ⟨⟨by decide +kernel, by decide +kernel⟩, List.mem_of_getElem? (i := 27) (by decide +kernel), List.mem_of_getElem? (i := 220) (by decide +kernel), List.mem_of_getElem? (i := 221) (by decide +kernel)⟩
theorem lw_p2 : lw_okq (⟨"PortDesk$Desk", "askPart", "(IIJ)J"⟩, 5) := ⟨⟨by decide +kernel, by decide +kernel⟩, List.mem_of_getElem? (i := 27) (by decide +kernel), List.mem_of_getElem? (i := 230) (by decide +kernel), List.mem_of_getElem? (i := 231) (by decide +kernel)⟩
theorem lw_p3 : lw_okq (⟨"PortDesk$Parts", "throwIfTold", "(I)V"⟩, 3) := ⟨⟨by decide +kernel, by decide +kernel⟩, List.mem_of_getElem? (i := 48) (by decide +kernel), List.mem_of_getElem? (i := 247) (by decide +kernel), List.mem_of_getElem? (i := 248) (by decide +kernel)⟩
theorem lw_p4 : lw_okq (⟨"java/lang/Throwable", "fillInStackTrace", "(I)Ljava/lang/Throwable;"⟩, 6) := ⟨⟨by decide +kernel, by decide +kernel⟩, List.mem_of_getElem? (i := 291) (by decide +kernel), List.mem_of_getElem? (i := 289) (by decide +kernel), List.mem_of_getElem? (i := 290) (by decide +kernel)⟩
theorem lw_p5 : lw_okq (⟨"PortDesk", "deskAt", "(I)LPortDesk$Desk;"⟩, 2) := ⟨⟨by decide +kernel, by decide +kernel⟩, List.mem_of_getElem? (i := 19) (by decide +kernel), List.mem_of_getElem? (i := 522) (by decide +kernel), List.mem_of_getElem? (i := 523) (by decide +kernel)⟩
theorem lw_p6 : lw_okq (⟨"PortDeskModel", "refuse", "(I)I"⟩, 11) := ⟨⟨by decide +kernel, by decide +kernel⟩, List.mem_of_getElem? (i := 541) (by decide +kernel), List.mem_of_getElem? (i := 621) (by decide +kernel), List.mem_of_getElem? (i := 622) (by decide +kernel)⟩
theorem lw_p7 : lw_okq (⟨"PortDeskModel", "isKnown", "(II)Z"⟩, 11) := ⟨⟨by decide +kernel, by decide +kernel⟩, List.mem_of_getElem? (i := 541) (by decide +kernel), List.mem_of_getElem? (i := 629) (by decide +kernel), List.mem_of_getElem? (i := 630) (by decide +kernel)⟩
theorem lw_p8 : lw_okq (⟨"PortDeskModel", "goes", "(IIIJ)J"⟩, 11) := ⟨⟨by decide +kernel, by decide +kernel⟩, List.mem_of_getElem? (i := 541) (by decide +kernel), List.mem_of_getElem? (i := 637) (by decide +kernel), List.mem_of_getElem? (i := 638) (by decide +kernel)⟩
theorem lw_p9 : lw_okq (⟨"PortDeskModel", "writes", "(IJI)J"⟩, 11) := ⟨⟨by decide +kernel, by decide +kernel⟩, List.mem_of_getElem? (i := 541) (by decide +kernel), List.mem_of_getElem? (i := 641) (by decide +kernel), List.mem_of_getElem? (i := 642) (by decide +kernel)⟩
def lw_privs_1 : List (MethodName × Nat) := [(⟨"PortDesk$Desk", "answerOrRefuse", "(IIJ)J"⟩, 5), (⟨"PortDesk$Desk", "refuse", "(I)J"⟩, 5), (⟨"PortDesk$Desk", "askPart", "(IIJ)J"⟩, 5), (⟨"PortDesk$Parts", "throwIfTold", "(I)V"⟩, 3), (⟨"java/lang/Throwable", "fillInStackTrace", "(I)Ljava/lang/Throwable;"⟩, 6), (⟨"PortDesk", "deskAt", "(I)LPortDesk$Desk;"⟩, 2), (⟨"PortDeskModel", "refuse", "(I)I"⟩, 11), (⟨"PortDeskModel", "isKnown", "(II)Z"⟩, 11), (⟨"PortDeskModel", "goes", "(IIIJ)J"⟩, 11), (⟨"PortDeskModel", "writes", "(IJI)J"⟩, 11)]
theorem lw_r1 : ∀ q ∈ lw_privs_1, lw_okq q := List.forall_mem_cons.mpr ⟨lw_p0, List.forall_mem_cons.mpr ⟨lw_p1, List.forall_mem_cons.mpr ⟨lw_p2, List.forall_mem_cons.mpr ⟨lw_p3, List.forall_mem_cons.mpr ⟨lw_p4, List.forall_mem_cons.mpr ⟨lw_p5, List.forall_mem_cons.mpr ⟨lw_p6, List.forall_mem_cons.mpr ⟨lw_p7, List.forall_mem_cons.mpr ⟨lw_p8, List.forall_mem_cons.mpr ⟨lw_p9, fun _ h => absurd h List.not_mem_nil⟩⟩⟩⟩⟩⟩⟩⟩⟩⟩
def lw_privs : List (MethodName × Nat) := lw_privs_1
def lw_tbl : List Cond := k2_sels lw_privs ++ tables_1
theorem lw_privs_ok : ∀ q ∈ lw_privs, lw_okq q := lw_r1
/-! ===== my own names, by program out of the Statement ===== -/
/-- the words that stay: those of the tables that a warmed machine keeps -/
def wsA : List Cond := lw_tbl.filter goodWord
theorem wa (i : Nat) {w : Cond} (h : lw_tbl[i]? = some w) (hg : goodWord w = true) : w ∈ wsA := List.mem_filter.mpr ⟨List.mem_of_getElem? h, hg⟩
theorem wa_good : ∀ w ∈ wsA, (w.onTables && w.keeps) = true ∨ ∃ ty, w = .arrayClass ty := fun w h => good_of_word (List.mem_filter.mp h).2
def RCV : String := "PortDesk$CollectedValues"
def TCV : u_T := fun k => match k with
  | 0 => ("PortDesk$CollectedValues", "sizes", "[I", true)
  | _ => ("PortDesk$CollectedValues", "values", "[[J", true)
def tyCV : Nat → FieldType := fun k => match k with
  | 0 => .array .int
  | _ => .array (.array .long)
theorem nmCV : ∀ a, a < 2 → ∀ b, b < 2 → a ≠ b → (TCV a).2.1 ≠ (TCV b).2.1 := by decide +kernel
theorem tyCV_ok : ∀ k, k < 2 → parseFieldDescriptor (TCV k).2.2.1 = some (tyCV k) := by decide +kernel
theorem inCV : ∀ w ∈ u_ws RCV TCV 2, w ∈ wsA := by decide +kernel
def RDK : String := "PortDesk$Desk"
def TDK : u_T := fun k => match k with
  | 0 => ("PortDesk$Desk", "numbers", "LPortDesk$Numbers;", true)
  | 1 => ("PortDesk$Desk", "parts", "LPortDesk$Parts;", true)
  | 2 => ("PortDesk$Desk", "tally", "LPortDesk$Tally;", true)
  | 3 => ("PortDesk$Desk", "collection", "LPortDesk$CollectedValues;", true)
  | _ => ("PortDesk$Desk", "journal", "LPortDesk$Journal;", true)
def tyDK : Nat → FieldType := fun k => match k with
  | 0 => .object "PortDesk$Numbers"
  | 1 => .object "PortDesk$Parts"
  | 2 => .object "PortDesk$Tally"
  | 3 => .object "PortDesk$CollectedValues"
  | _ => .object "PortDesk$Journal"
theorem nmDK : ∀ a, a < 5 → ∀ b, b < 5 → a ≠ b → (TDK a).2.1 ≠ (TDK b).2.1 := by decide +kernel
theorem tyDK_ok : ∀ k, k < 5 → parseFieldDescriptor (TDK k).2.2.1 = some (tyDK k) := by decide +kernel
theorem inDK : ∀ w ∈ u_ws RDK TDK 5, w ∈ wsA := by decide +kernel
def RJN : String := "PortDesk$Journal"
def TJN : u_T := fun k => match k with
  | 0 => ("PortDesk$Journal", "ring", "[J", true)
  | 1 => ("PortDesk$Journal", "size", "I", false)
  | _ => ("PortDesk$Journal", "next", "I", false)
def tyJN : Nat → FieldType := fun k => match k with
  | 0 => .array .long
  | 1 => .int
  | _ => .int
theorem nmJN : ∀ a, a < 3 → ∀ b, b < 3 → a ≠ b → (TJN a).2.1 ≠ (TJN b).2.1 := by decide +kernel
theorem tyJN_ok : ∀ k, k < 3 → parseFieldDescriptor (TJN k).2.2.1 = some (tyJN k) := by decide +kernel
theorem inJN : ∀ w ∈ u_ws RJN TJN 3, w ∈ wsA := by decide +kernel
def RNU : String := "PortDesk$Numbers"
def TNU : u_T := fun k => match k with
  | 0 => ("PortDesk$Numbers", "made", "[I", true)
  | _ => ("PortDesk$Numbers", "known", "[J", true)
def tyNU : Nat → FieldType := fun k => match k with
  | 0 => .array .int
  | _ => .array .long
theorem nmNU : ∀ a, a < 2 → ∀ b, b < 2 → a ≠ b → (TNU a).2.1 ≠ (TNU b).2.1 := by decide +kernel
theorem tyNU_ok : ∀ k, k < 2 → parseFieldDescriptor (TNU k).2.2.1 = some (tyNU k) := by decide +kernel
theorem inNU : ∀ w ∈ u_ws RNU TNU 2, w ∈ wsA := by decide +kernel
def RPT : String := "PortDesk$Parts"
def TPT : u_T := fun k => match k with
  | 0 => ("PortDesk$Parts", "answers", "[J", true)
  | 1 => ("PortDesk$Parts", "sums", "[J", true)
  | _ => ("PortDesk$Parts", "failures", "[I", true)
def tyPT : Nat → FieldType := fun k => match k with
  | 0 => .array .long
  | 1 => .array .long
  | _ => .array .int
theorem nmPT : ∀ a, a < 3 → ∀ b, b < 3 → a ≠ b → (TPT a).2.1 ≠ (TPT b).2.1 := by decide +kernel
theorem tyPT_ok : ∀ k, k < 3 → parseFieldDescriptor (TPT k).2.2.1 = some (tyPT k) := by decide +kernel
theorem inPT : ∀ w ∈ u_ws RPT TPT 3, w ∈ wsA := by decide +kernel
def RTL : String := "PortDesk$Tally"
def TTL : u_T := fun k => match k with
  | _ => ("PortDesk$Tally", "facts", "[J", true)
def tyTL : Nat → FieldType := fun k => match k with
  | _ => .array .long
theorem nmTL : ∀ a, a < 1 → ∀ b, b < 1 → a ≠ b → (TTL a).2.1 ≠ (TTL b).2.1 := by decide +kernel
theorem tyTL_ok : ∀ k, k < 1 → parseFieldDescriptor (TTL k).2.2.1 = some (tyTL k) := by decide +kernel
theorem inTL : ∀ w ∈ u_ws RTL TTL 1, w ∈ wsA := by decide +kernel
def RPD : String := "PortDesk"
def TPD : u_T := fun k => match k with
  | 0 => ("PortDesk", "first", "LPortDesk$Desk;", true)
  | _ => ("PortDesk", "second", "LPortDesk$Desk;", true)
def tyPD : Nat → FieldType := fun k => match k with
  | 0 => .object "PortDesk$Desk"
  | _ => .object "PortDesk$Desk"
theorem nmPD : ∀ a, a < 2 → ∀ b, b < 2 → a ≠ b → (TPD a).2.1 ≠ (TPD b).2.1 := by decide +kernel
theorem tyPD_ok : ∀ k, k < 2 → parseFieldDescriptor (TPD k).2.2.1 = some (tyPD k) := by decide +kernel
theorem inPD : ∀ w ∈ u_ws RPD TPD 2, w ∈ wsA := by decide +kernel
def RMO : String := "PortDeskModel"
def TMO : u_T := fun k => match k with
  | 0 => ("PortDeskModel", "thrown", "I", false)
  | 1 => ("PortDeskModel", "made", "[I", true)
  | 2 => ("PortDeskModel", "dropped", "[Z", true)
  | 3 => ("PortDeskModel", "answers", "[J", true)
  | 4 => ("PortDeskModel", "failing", "[I", true)
  | 5 => ("PortDeskModel", "sums", "[J", true)
  | 6 => ("PortDeskModel", "logged", "[I", true)
  | 7 => ("PortDeskModel", "log", "[J", true)
  | 8 => ("PortDeskModel", "told", "[J", true)
  | 9 => ("PortDeskModel", "many", "[I", true)
  | _ => ("PortDeskModel", "values", "[J", true)
def tyMO : Nat → FieldType := fun k => match k with
  | 0 => .int
  | 1 => .array .int
  | 2 => .array .boolean
  | 3 => .array .long
  | 4 => .array .int
  | 5 => .array .long
  | 6 => .array .int
  | 7 => .array .long
  | 8 => .array .long
  | 9 => .array .int
  | _ => .array .long
theorem nmMO : ∀ a, a < 11 → ∀ b, b < 11 → a ≠ b → (TMO a).2.1 ≠ (TMO b).2.1 := by decide +kernel
theorem tyMO_ok : ∀ k, k < 11 → parseFieldDescriptor (TMO k).2.2.1 = some (tyMO k) := by decide +kernel
theorem inMO : ∀ w ∈ u_ws RMO TMO 11, w ∈ wsA := by decide +kernel
def RLG : String := "java/lang/Long"
def RLW : String := "PortDeskLaw"
abbrev cPD_init : ByteArray := prog_1_method_1_code
def yPD_init : MethodName := ⟨RPD, "<init>", "()V"⟩
abbrev cDK_init : ByteArray := prog_3_method_1_code
def yDK_init : MethodName := ⟨RDK, "<init>", "()V"⟩
abbrev cNU_init : ByteArray := prog_5_method_1_code
def yNU_init : MethodName := ⟨RNU, "<init>", "()V"⟩
abbrev cPT_init : ByteArray := prog_6_method_1_code
def yPT_init : MethodName := ⟨RPT, "<init>", "()V"⟩
abbrev cTL_init : ByteArray := prog_7_method_1_code
def yTL_init : MethodName := ⟨RTL, "<init>", "()V"⟩
abbrev cCV_init : ByteArray := prog_2_method_1_code
def yCV_init : MethodName := ⟨RCV, "<init>", "()V"⟩
abbrev cJN_init : ByteArray := prog_4_method_1_code
def yJN_init : MethodName := ⟨RJN, "<init>", "()V"⟩
abbrev cPD_collect : ByteArray := prog_1_method_2_code
def yPD_collect : MethodName := ⟨RPD, "collect", "(IJ)I"⟩
abbrev cCV_canHold : ByteArray := prog_2_method_2_code
def yCV_canHold : MethodName := ⟨RCV, "canHold", "(IJ)Z"⟩
abbrev cDK_take : ByteArray := prog_3_method_2_code
def yDK_take : MethodName := ⟨RDK, "take", "(IJ)I"⟩
abbrev cCV_isFull : ByteArray := prog_2_method_3_code
def yCV_isFull : MethodName := ⟨RCV, "isFull", "(I)Z"⟩
abbrev cNU_isFull : ByteArray := prog_5_method_2_code
def yNU_isFull : MethodName := ⟨RNU, "isFull", "(I)Z"⟩
abbrev cNU_makeNext : ByteArray := prog_5_method_3_code
def yNU_makeNext : MethodName := ⟨RNU, "makeNext", "(I)I"⟩
abbrev cNU_bitOf : ByteArray := prog_5_method_10_code
def yNU_bitOf : MethodName := ⟨RNU, "bitOf", "(I)J"⟩
abbrev cCV_add : ByteArray := prog_2_method_4_code
def yCV_add : MethodName := ⟨RCV, "add", "(IJ)I"⟩
abbrev cPD_answer : ByteArray := prog_1_method_3_code
def yPD_answer : MethodName := ⟨RPD, "answer", "(IJ)Z"⟩
abbrev cPD_isPart : ByteArray := prog_1_method_19_code
def yPD_isPart : MethodName := ⟨RPD, "isPart", "(I)Z"⟩
abbrev cPT_setAnswer : ByteArray := prog_6_method_2_code
def yPT_setAnswer : MethodName := ⟨RPT, "setAnswer", "(IJ)V"⟩
abbrev cPD_fails : ByteArray := prog_1_method_4_code
def yPD_fails : MethodName := ⟨RPD, "fails", "(II)Z"⟩
abbrev cPT_setFailure : ByteArray := prog_6_method_3_code
def yPT_setFailure : MethodName := ⟨RPT, "setFailure", "(II)V"⟩
abbrev cPD_drop : ByteArray := prog_1_method_6_code
def yPD_drop : MethodName := ⟨RPD, "drop", "(II)Z"⟩
abbrev cPD_isKind : ByteArray := prog_1_method_18_code
def yPD_isKind : MethodName := ⟨RPD, "isKind", "(I)Z"⟩
abbrev cNU_isKnown : ByteArray := prog_5_method_6_code
def yNU_isKnown : MethodName := ⟨RNU, "isKnown", "(II)Z"⟩
abbrev cNU_wasMade : ByteArray := prog_5_method_5_code
def yNU_wasMade : MethodName := ⟨RNU, "wasMade", "(II)Z"⟩
abbrev cNU_forget : ByteArray := prog_5_method_4_code
def yNU_forget : MethodName := ⟨RNU, "forget", "(II)V"⟩
abbrev cPD_call : ByteArray := prog_1_method_7_code
def yPD_call : MethodName := ⟨RPD, "call", "(IIJ)J"⟩
abbrev cDK_ask : ByteArray := prog_3_method_3_code
def yDK_ask : MethodName := ⟨RDK, "ask", "(IIJ)J"⟩
abbrev cDK_answerOrRefuse : ByteArray := prog_3_method_4_code
def yDK_answerOrRefuse : MethodName := ⟨RDK, "answerOrRefuse", "(IIJ)J"⟩
abbrev cDK_refuse : ByteArray := prog_3_method_5_code
def yDK_refuse : MethodName := ⟨RDK, "refuse", "(I)J"⟩
abbrev cTL_countRefused : ByteArray := prog_7_method_3_code
def yTL_countRefused : MethodName := ⟨RTL, "countRefused", "(I)V"⟩
abbrev cDK_askPart : ByteArray := prog_3_method_6_code
def yDK_askPart : MethodName := ⟨RDK, "askPart", "(IIJ)J"⟩
abbrev cPT_sumOf : ByteArray := prog_6_method_4_code
def yPT_sumOf : MethodName := ⟨RPT, "sumOf", "(I)J"⟩
abbrev cPT_answerTo : ByteArray := prog_6_method_6_code
def yPT_answerTo : MethodName := ⟨RPT, "answerTo", "(IIJ)J"⟩
abbrev cPT_throwIfTold : ByteArray := prog_6_method_7_code
def yPT_throwIfTold : MethodName := ⟨RPT, "throwIfTold", "(I)V"⟩
abbrev cPT_restoreSum : ByteArray := prog_6_method_5_code
def yPT_restoreSum : MethodName := ⟨RPT, "restoreSum", "(IJ)V"⟩
abbrev cTL_countFailure : ByteArray := prog_7_method_4_code
def yTL_countFailure : MethodName := ⟨RTL, "countFailure", "(III)V"⟩
abbrev cTL_countAnswered : ByteArray := prog_7_method_2_code
def yTL_countAnswered : MethodName := ⟨RTL, "countAnswered", "()V"⟩
abbrev cJN_write : ByteArray := prog_4_method_2_code
def yJN_write : MethodName := ⟨RJN, "write", "(J)V"⟩
abbrev cPD_again : ByteArray := prog_1_method_8_code
def yPD_again : MethodName := ⟨RPD, "again", "(IIJ)J"⟩
abbrev cPD_numbers : ByteArray := prog_1_method_10_code
def yPD_numbers : MethodName := ⟨RPD, "numbers", "(I)I"⟩
abbrev cNU_countKnown : ByteArray := prog_5_method_7_code
def yNU_countKnown : MethodName := ⟨RNU, "countKnown", "(I)I"⟩
abbrev cLG_bitCount : ByteArray := prog_15_method_50_code
def yLG_bitCount : MethodName := ⟨RLG, "bitCount", "(J)I"⟩
abbrev cPD_same : ByteArray := prog_1_method_15_code
def yPD_same : MethodName := ⟨RPD, "same", "()Z"⟩
abbrev cDK_isLike : ByteArray := prog_3_method_7_code
def yDK_isLike : MethodName := ⟨RDK, "isLike", "(LPortDesk$Desk;)Z"⟩
abbrev cNU_isLike : ByteArray := prog_5_method_9_code
def yNU_isLike : MethodName := ⟨RNU, "isLike", "(LPortDesk$Numbers;)Z"⟩
abbrev cPT_hasSumsOf : ByteArray := prog_6_method_8_code
def yPT_hasSumsOf : MethodName := ⟨RPT, "hasSumsOf", "(LPortDesk$Parts;)Z"⟩
abbrev cJN_isLike : ByteArray := prog_4_method_5_code
def yJN_isLike : MethodName := ⟨RJN, "isLike", "(LPortDesk$Journal;)Z"⟩
abbrev cJN_entryAt : ByteArray := prog_4_method_4_code
def yJN_entryAt : MethodName := ⟨RJN, "entryAt", "(I)J"⟩
abbrev cTL_isLike : ByteArray := prog_7_method_6_code
def yTL_isLike : MethodName := ⟨RTL, "isLike", "(LPortDesk$Tally;)Z"⟩
abbrev cCV_isLike : ByteArray := prog_2_method_7_code
def yCV_isLike : MethodName := ⟨RCV, "isLike", "(LPortDesk$CollectedValues;)Z"⟩
abbrev cLW_make : ByteArray := method_3_code
def yLW_make : MethodName := ⟨RLW, "make", "(LPortDesk;I[J)I"⟩
abbrev cPD_make : ByteArray := prog_1_method_5_code
def yPD_make : MethodName := ⟨RPD, "make", "(I)I"⟩
abbrev cLW_told : ByteArray := method_4_code
def yLW_told : MethodName := ⟨RLW, "told", "(LPortDesk;I[J)I"⟩
abbrev cPD_told : ByteArray := prog_1_method_9_code
def yPD_told : MethodName := ⟨RPD, "told", "(I)J"⟩
abbrev cTL_fact : ByteArray := prog_7_method_5_code
def yTL_fact : MethodName := ⟨RTL, "fact", "(I)J"⟩
abbrev cLW_number : ByteArray := method_5_code
def yLW_number : MethodName := ⟨RLW, "number", "(LPortDesk;II[J)I"⟩
abbrev cPD_number : ByteArray := prog_1_method_11_code
def yPD_number : MethodName := ⟨RPD, "number", "(II)I"⟩
abbrev cNU_knownAt : ByteArray := prog_5_method_8_code
def yNU_knownAt : MethodName := ⟨RNU, "knownAt", "(II)I"⟩
abbrev cLW_collected : ByteArray := method_6_code
def yLW_collected : MethodName := ⟨RLW, "collected", "(LPortDesk;II[J)I"⟩
abbrev cPD_collected : ByteArray := prog_1_method_12_code
def yPD_collected : MethodName := ⟨RPD, "collected", "(II)J"⟩
abbrev cCV_size : ByteArray := prog_2_method_5_code
def yCV_size : MethodName := ⟨RCV, "size", "(I)I"⟩
abbrev cCV_valueAt : ByteArray := prog_2_method_6_code
def yCV_valueAt : MethodName := ⟨RCV, "valueAt", "(II)J"⟩
abbrev cLW_log : ByteArray := method_7_code
def yLW_log : MethodName := ⟨RLW, "log", "(LPortDesk;II[J)I"⟩
abbrev cPD_log : ByteArray := prog_1_method_13_code
def yPD_log : MethodName := ⟨RPD, "log", "(II)J"⟩
abbrev cPD_isDesk : ByteArray := prog_1_method_17_code
def yPD_isDesk : MethodName := ⟨RPD, "isDesk", "(I)Z"⟩
abbrev cPD_deskAt : ByteArray := prog_1_method_16_code
def yPD_deskAt : MethodName := ⟨RPD, "deskAt", "(I)LPortDesk$Desk;"⟩
abbrev cJN_size : ByteArray := prog_4_method_3_code
def yJN_size : MethodName := ⟨RJN, "size", "()I"⟩
abbrev cLW_sum : ByteArray := method_8_code
def yLW_sum : MethodName := ⟨RLW, "sum", "(LPortDesk;II[J)I"⟩
abbrev cPD_sum : ByteArray := prog_1_method_14_code
def yPD_sum : MethodName := ⟨RPD, "sum", "(II)J"⟩
abbrev cMO_init : ByteArray := prog_9_method_1_code
def yMO_init : MethodName := ⟨RMO, "<init>", "()V"⟩
abbrev cMO_thrown : ByteArray := prog_9_method_2_code
def yMO_thrown : MethodName := ⟨RMO, "thrown", "()I"⟩
abbrev cMO_collect : ByteArray := prog_9_method_8_code
def yMO_collect : MethodName := ⟨RMO, "collect", "(IJ)I"⟩
abbrev cMO_in : ByteArray := prog_9_method_4_code
def yMO_in : MethodName := ⟨RMO, "in", "(JJJ)Z"⟩
abbrev cMO_fits : ByteArray := prog_9_method_7_code
def yMO_fits : MethodName := ⟨RMO, "fits", "(IJ)Z"⟩
abbrev cMO_answer : ByteArray := prog_9_method_9_code
def yMO_answer : MethodName := ⟨RMO, "answer", "(IJ)Z"⟩
abbrev cMO_isPart : ByteArray := prog_9_method_5_code
def yMO_isPart : MethodName := ⟨RMO, "isPart", "(I)Z"⟩
abbrev cMO_fails : ByteArray := prog_9_method_10_code
def yMO_fails : MethodName := ⟨RMO, "fails", "(II)Z"⟩
abbrev cMO_make : ByteArray := prog_9_method_11_code
def yMO_make : MethodName := ⟨RMO, "make", "(I)I"⟩
abbrev cMO_isKind : ByteArray := prog_9_method_6_code
def yMO_isKind : MethodName := ⟨RMO, "isKind", "(I)Z"⟩
abbrev cMO_refuse : ByteArray := prog_9_method_3_code
def yMO_refuse : MethodName := ⟨RMO, "refuse", "(I)I"⟩
abbrev cMO_drop : ByteArray := prog_9_method_13_code
def yMO_drop : MethodName := ⟨RMO, "drop", "(II)Z"⟩
abbrev cMO_isKnown : ByteArray := prog_9_method_12_code
def yMO_isKnown : MethodName := ⟨RMO, "isKnown", "(II)Z"⟩
abbrev cMO_call : ByteArray := prog_9_method_16_code
def yMO_call : MethodName := ⟨RMO, "call", "(IIJ)J"⟩
abbrev cMO_goes : ByteArray := prog_9_method_15_code
def yMO_goes : MethodName := ⟨RMO, "goes", "(IIIJ)J"⟩
abbrev cMO_writes : ByteArray := prog_9_method_14_code
def yMO_writes : MethodName := ⟨RMO, "writes", "(IJI)J"⟩
abbrev cMO_again : ByteArray := prog_9_method_17_code
def yMO_again : MethodName := ⟨RMO, "again", "(IIJ)J"⟩
abbrev cMO_told : ByteArray := prog_9_method_18_code
def yMO_told : MethodName := ⟨RMO, "told", "(I)J"⟩
abbrev cMO_numbers : ByteArray := prog_9_method_19_code
def yMO_numbers : MethodName := ⟨RMO, "numbers", "(I)I"⟩
abbrev cMO_number : ByteArray := prog_9_method_20_code
def yMO_number : MethodName := ⟨RMO, "number", "(II)I"⟩
abbrev cMO_collected : ByteArray := prog_9_method_21_code
def yMO_collected : MethodName := ⟨RMO, "collected", "(II)J"⟩
abbrev cMO_log : ByteArray := prog_9_method_22_code
def yMO_log : MethodName := ⟨RMO, "log", "(II)J"⟩
abbrev cMO_sum : ByteArray := prog_9_method_23_code
def yMO_sum : MethodName := ⟨RMO, "sum", "(II)J"⟩
abbrev cMO_same : ByteArray := prog_9_method_24_code
def yMO_same : MethodName := ⟨RMO, "same", "()Z"⟩
abbrev cLW_law : ByteArray := code
def yLW_law : MethodName := ⟨RLW, "law", "([I)Z"⟩
abbrev wsPD_init : List Cond := Cond.code yPD_init cPD_init 1 none :: wsA
abbrev wsDK_init : List Cond := Cond.code yDK_init cDK_init 1 none :: wsA
abbrev wsNU_init : List Cond := Cond.code yNU_init cNU_init 1 none :: wsA
abbrev wsPT_init : List Cond := Cond.code yPT_init cPT_init 1 none :: wsA
abbrev wsTL_init : List Cond := Cond.code yTL_init cTL_init 1 none :: wsA
abbrev wsCV_init : List Cond := Cond.code yCV_init cCV_init 1 none :: wsA
abbrev wsJN_init : List Cond := Cond.code yJN_init cJN_init 1 none :: wsA
abbrev wsPD_collect : List Cond := Cond.code yPD_collect cPD_collect 4 (some .int) :: wsA
abbrev wsCV_canHold : List Cond := Cond.code yCV_canHold cCV_canHold 3 (some .boolean) :: wsA
abbrev wsDK_take : List Cond := Cond.code yDK_take cDK_take 4 (some .int) :: wsA
abbrev wsCV_isFull : List Cond := Cond.code yCV_isFull cCV_isFull 2 (some .boolean) :: wsA
abbrev wsNU_isFull : List Cond := Cond.code yNU_isFull cNU_isFull 2 (some .boolean) :: wsA
abbrev wsNU_makeNext : List Cond := Cond.code yNU_makeNext cNU_makeNext 2 (some .int) :: wsA
abbrev wsNU_bitOf : List Cond := Cond.code yNU_bitOf cNU_bitOf 1 (some .long) :: wsA
abbrev wsCV_add : List Cond := Cond.code yCV_add cCV_add 4 (some .int) :: wsA
abbrev wsPD_answer : List Cond := Cond.code yPD_answer cPD_answer 4 (some .boolean) :: wsA
abbrev wsPD_isPart : List Cond := Cond.code yPD_isPart cPD_isPart 1 (some .boolean) :: wsA
abbrev wsPT_setAnswer : List Cond := Cond.code yPT_setAnswer cPT_setAnswer 4 none :: wsA
abbrev wsPD_fails : List Cond := Cond.code yPD_fails cPD_fails 3 (some .boolean) :: wsA
abbrev wsPT_setFailure : List Cond := Cond.code yPT_setFailure cPT_setFailure 3 none :: wsA
abbrev wsPD_drop : List Cond := Cond.code yPD_drop cPD_drop 3 (some .boolean) :: wsA
abbrev wsPD_isKind : List Cond := Cond.code yPD_isKind cPD_isKind 1 (some .boolean) :: wsA
abbrev wsNU_isKnown : List Cond := Cond.code yNU_isKnown cNU_isKnown 3 (some .boolean) :: wsA
abbrev wsNU_wasMade : List Cond := Cond.code yNU_wasMade cNU_wasMade 3 (some .boolean) :: wsA
abbrev wsNU_forget : List Cond := Cond.code yNU_forget cNU_forget 3 none :: wsA
abbrev wsPD_call : List Cond := Cond.code yPD_call cPD_call 5 (some .long) :: wsA
abbrev wsDK_ask : List Cond := Cond.code yDK_ask cDK_ask 7 (some .long) :: wsA
abbrev wsDK_answerOrRefuse : List Cond := Cond.code yDK_answerOrRefuse cDK_answerOrRefuse 6 (some .long) :: wsA
abbrev wsDK_refuse : List Cond := Cond.code yDK_refuse cDK_refuse 2 (some .long) :: wsA
abbrev wsTL_countRefused : List Cond := Cond.code yTL_countRefused cTL_countRefused 2 none :: wsA
abbrev wsDK_askPart : List Cond := Cond.codeWith yDK_askPart cDK_askPart 11 (some .long) [(16, 28, 31, 94), (16, 28, 39, 96), (16, 28, 47, 98), (16, 28, 55, 100), (16, 28, 63, 102)] :: wsA
abbrev wsPT_sumOf : List Cond := Cond.code yPT_sumOf cPT_sumOf 2 (some .long) :: wsA
abbrev wsPT_answerTo : List Cond := Cond.code yPT_answerTo cPT_answerTo 5 (some .long) :: wsA
abbrev wsPT_throwIfTold : List Cond := Cond.code yPT_throwIfTold cPT_throwIfTold 3 none :: wsA
abbrev wsPT_restoreSum : List Cond := Cond.code yPT_restoreSum cPT_restoreSum 4 none :: wsA
abbrev wsTL_countFailure : List Cond := Cond.code yTL_countFailure cTL_countFailure 4 none :: wsA
abbrev wsTL_countAnswered : List Cond := Cond.code yTL_countAnswered cTL_countAnswered 1 none :: wsA
abbrev wsJN_write : List Cond := Cond.code yJN_write cJN_write 3 none :: wsA
abbrev wsPD_again : List Cond := Cond.code yPD_again cPD_again 5 (some .long) :: wsA
abbrev wsPD_numbers : List Cond := Cond.code yPD_numbers cPD_numbers 2 (some .int) :: wsA
abbrev wsNU_countKnown : List Cond := Cond.code yNU_countKnown cNU_countKnown 2 (some .int) :: wsA
abbrev wsLG_bitCount : List Cond := Cond.code yLG_bitCount cLG_bitCount 2 (some .int) :: wsA
abbrev wsPD_same : List Cond := Cond.code yPD_same cPD_same 1 (some .boolean) :: wsA
abbrev wsDK_isLike : List Cond := Cond.code yDK_isLike cDK_isLike 2 (some .boolean) :: wsA
abbrev wsNU_isLike : List Cond := Cond.code yNU_isLike cNU_isLike 3 (some .boolean) :: wsA
abbrev wsPT_hasSumsOf : List Cond := Cond.code yPT_hasSumsOf cPT_hasSumsOf 3 (some .boolean) :: wsA
abbrev wsJN_isLike : List Cond := Cond.code yJN_isLike cJN_isLike 3 (some .boolean) :: wsA
abbrev wsJN_entryAt : List Cond := Cond.code yJN_entryAt cJN_entryAt 2 (some .long) :: wsA
abbrev wsTL_isLike : List Cond := Cond.code yTL_isLike cTL_isLike 3 (some .boolean) :: wsA
abbrev wsCV_isLike : List Cond := Cond.code yCV_isLike cCV_isLike 4 (some .boolean) :: wsA
abbrev wsLW_make : List Cond := Cond.codeWith yLW_make cLW_make 4 (some .int) [(0, 9, 12, 13), (0, 9, 15, 15)] :: wsA
abbrev wsPD_make : List Cond := Cond.code yPD_make cPD_make 2 (some .int) :: wsA
abbrev wsLW_told : List Cond := Cond.codeWith yLW_told cLW_told 4 (some .int) [(0, 8, 11, 21)] :: wsA
abbrev wsPD_told : List Cond := Cond.code yPD_told cPD_told 2 (some .long) :: wsA
abbrev wsTL_fact : List Cond := Cond.code yTL_fact cTL_fact 2 (some .long) :: wsA
abbrev wsLW_number : List Cond := Cond.codeWith yLW_number cLW_number 5 (some .int) [(0, 10, 13, 13)] :: wsA
abbrev wsPD_number : List Cond := Cond.code yPD_number cPD_number 3 (some .int) :: wsA
abbrev wsNU_knownAt : List Cond := Cond.code yNU_knownAt cNU_knownAt 5 (some .int) :: wsA
abbrev wsLW_collected : List Cond := Cond.codeWith yLW_collected cLW_collected 5 (some .int) [(0, 9, 12, 21)] :: wsA
abbrev wsPD_collected : List Cond := Cond.code yPD_collected cPD_collected 3 (some .long) :: wsA
abbrev wsCV_size : List Cond := Cond.code yCV_size cCV_size 2 (some .int) :: wsA
abbrev wsCV_valueAt : List Cond := Cond.code yCV_valueAt cCV_valueAt 3 (some .long) :: wsA
abbrev wsLW_log : List Cond := Cond.codeWith yLW_log cLW_log 5 (some .int) [(0, 9, 12, 21)] :: wsA
abbrev wsPD_log : List Cond := Cond.code yPD_log cPD_log 3 (some .long) :: wsA
abbrev wsPD_isDesk : List Cond := Cond.code yPD_isDesk cPD_isDesk 1 (some .boolean) :: wsA
abbrev wsPD_deskAt : List Cond := Cond.code yPD_deskAt cPD_deskAt 2 (some (.object "PortDesk$Desk")) :: wsA
abbrev wsJN_size : List Cond := Cond.code yJN_size cJN_size 1 (some .int) :: wsA
abbrev wsLW_sum : List Cond := Cond.codeWith yLW_sum cLW_sum 5 (some .int) [(0, 9, 12, 13)] :: wsA
abbrev wsPD_sum : List Cond := Cond.code yPD_sum cPD_sum 3 (some .long) :: wsA
abbrev wsMO_init : List Cond := Cond.code yMO_init cMO_init 1 none :: wsA
abbrev wsMO_thrown : List Cond := Cond.code yMO_thrown cMO_thrown 1 (some .int) :: wsA
abbrev wsMO_collect : List Cond := Cond.code yMO_collect cMO_collect 4 (some .int) :: wsA
abbrev wsMO_in : List Cond := Cond.code yMO_in cMO_in 6 (some .boolean) :: wsA
abbrev wsMO_fits : List Cond := Cond.code yMO_fits cMO_fits 3 (some .boolean) :: wsA
abbrev wsMO_answer : List Cond := Cond.code yMO_answer cMO_answer 4 (some .boolean) :: wsA
abbrev wsMO_isPart : List Cond := Cond.code yMO_isPart cMO_isPart 1 (some .boolean) :: wsA
abbrev wsMO_fails : List Cond := Cond.code yMO_fails cMO_fails 3 (some .boolean) :: wsA
abbrev wsMO_make : List Cond := Cond.code yMO_make cMO_make 2 (some .int) :: wsA
abbrev wsMO_isKind : List Cond := Cond.code yMO_isKind cMO_isKind 1 (some .boolean) :: wsA
abbrev wsMO_refuse : List Cond := Cond.code yMO_refuse cMO_refuse 2 (some .int) :: wsA
abbrev wsMO_drop : List Cond := Cond.code yMO_drop cMO_drop 3 (some .boolean) :: wsA
abbrev wsMO_isKnown : List Cond := Cond.code yMO_isKnown cMO_isKnown 3 (some .boolean) :: wsA
abbrev wsMO_call : List Cond := Cond.code yMO_call cMO_call 9 (some .long) :: wsA
abbrev wsMO_goes : List Cond := Cond.code yMO_goes cMO_goes 9 (some .long) :: wsA
abbrev wsMO_writes : List Cond := Cond.code yMO_writes cMO_writes 7 (some .long) :: wsA
abbrev wsMO_again : List Cond := Cond.code yMO_again cMO_again 5 (some .long) :: wsA
abbrev wsMO_told : List Cond := Cond.code yMO_told cMO_told 2 (some .long) :: wsA
abbrev wsMO_numbers : List Cond := Cond.code yMO_numbers cMO_numbers 4 (some .int) :: wsA
abbrev wsMO_number : List Cond := Cond.code yMO_number cMO_number 6 (some .int) :: wsA
abbrev wsMO_collected : List Cond := Cond.code yMO_collected cMO_collected 4 (some .long) :: wsA
abbrev wsMO_log : List Cond := Cond.code yMO_log cMO_log 4 (some .long) :: wsA
abbrev wsMO_sum : List Cond := Cond.code yMO_sum cMO_sum 4 (some .long) :: wsA
abbrev wsMO_same : List Cond := Cond.code yMO_same cMO_same 3 (some .boolean) :: wsA
abbrev vwCl : List vw_C := [(RCV, TCV, 2), (RDK, TDK, 5), (RJN, TJN, 3), (RNU, TNU, 2), (RPT, TPT, 3), (RTL, TTL, 1), (RPD, TPD, 2), (RMO, TMO, 11)]
